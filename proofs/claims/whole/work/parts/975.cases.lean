/-! the law's twelve calls (printed by my own program) -/
section LWK
variable {p : Program} {l : Launch} {e : Env} {s : State} {m : MethodId} {below : List Frame} {meth : Method} {c : Code} {b L : Nat} {xs : Nat → Int32} {D : va_G} {tc : Nat → ClassId} {H : Heap} {locs : List Loc} {Q : State → Prop} {ls : Array Slot} {S : st_S} {V : st_V} {i : Nat}
theorem lw_case_0 (C0 : lw_At p s m meth c b L xs) (hK : am_Kn D tc s) (I : Inv S V) (hH : lw_H D tc s (hs S V) H locs) (hl : lv_has ls 4 [(0, .ref b), (1, .ref (s.heap.size + 0)), (2, .ref (s.heap.size + 93)), (3, .int (nI i))]) (hL : L ≤ 3072) (hi : i + 6 ≤ L) (kk : ∀ (S' : st_S) (V' : st_V) (H' : Heap) (locs' : List Loc), Inv S' V' → lw_H D tc s (hs S' V') H' locs' → W p l e room_1 s m #[Value.ref b] below meth c H' locs' 121 2508 Q (F0 m 624 ls [])) : W p l e room_1 s m #[Value.ref b] below meth c H locs 121 2508 Q (F0 m 96 ls []) := by
  have hx := C0.1
  have hb := C0.2.1
  obtain ⟨r, S1, V1, S2, V2, e1, e2, I2⟩ := step_card I (xs (i + 1)) (xs (i + 2)) (xs (i + 3)) (xs (i + 4)) (xs (i + 5))
  refine lv_aload_n hx hb d_law_96 rfl (lv_at hl 1 rfl) ?_
  refine lw_arg (lv := []) (k := 1) C0 hH hl hL (by omega) d_law_97 d_law_98 d_law_99 d_law_100 d_law_101 ?_
  refine lw_arg (lv := []) (k := 2) C0 hH hl hL (by omega) d_law_102 d_law_103 d_law_104 d_law_105 d_law_106 ?_
  refine lw_arg (lv := []) (k := 3) C0 hH hl hL (by omega) d_law_107 d_law_108 d_law_109 d_law_110 d_law_111 ?_
  refine lw_arg (lv := []) (k := 4) C0 hH hl hL (by omega) d_law_112 d_law_113 d_law_114 d_law_115 d_law_116 ?_
  refine lw_arg (lv := []) (k := 5) C0 hH hl hL (by omega) d_law_117 d_law_118 d_law_119 d_law_120 d_law_121 ?_
  refine lw_call (lv := []) (a := 0) (as := [.int (xs (i + 1)), .int (xs (i + 2)), .int (xs (i + 3)), .int (xs (i + 4)), .int (xs (i + 5))]) (rest := []) (q := q_Tap_card) C0 hK hH rfl e1 rfl rfl (by show (parseMethodDescriptor q_Tap_card.1.desc).map (fun d => d.parameters.length) = some 5; decide +kernel) lwl_122 lwm_122 lws_122 rfl rfl rfl (by decide) (by decide) (by show 0 ≤ 8; decide) hl.1 rfl d_law_122 (fun H1 locs1 hH1 => ?_)
  refine lv_aload_n hx hb d_law_125 rfl (lv_at hl 2 rfl) ?_
  refine lw_arg (lv := []) (k := 1) C0 hH1 hl hL (by omega) d_law_126 d_law_127 d_law_128 d_law_129 d_law_130 ?_
  refine lw_arg (lv := []) (k := 2) C0 hH1 hl hL (by omega) d_law_131 d_law_132 d_law_133 d_law_134 d_law_135 ?_
  refine lw_arg (lv := []) (k := 3) C0 hH1 hl hL (by omega) d_law_136 d_law_137 d_law_138 d_law_139 d_law_140 ?_
  refine lw_arg (lv := []) (k := 4) C0 hH1 hl hL (by omega) d_law_141 d_law_142 d_law_143 d_law_144 d_law_145 ?_
  refine lw_arg (lv := []) (k := 5) C0 hH1 hl hL (by omega) d_law_146 d_law_147 d_law_148 d_law_149 d_law_150 ?_
  refine lw_call (lv := []) (a := 93) (as := [.int (xs (i + 1)), .int (xs (i + 2)), .int (xs (i + 3)), .int (xs (i + 4)), .int (xs (i + 5))]) (rest := [.int r]) (q := q_Mod_card) C0 hK hH1 rfl e2 rfl rfl (by show (parseMethodDescriptor q_Mod_card.1.desc).map (fun d => d.parameters.length) = some 5; decide +kernel) lwl_151 lwm_151 lws_151 rfl rfl rfl (by decide) (by decide) (by show 1 ≤ 8; decide) hl.1 rfl d_law_151 (fun H2 locs2 hH2 => ?_)
  exact lv_icmp_eq (tgt := 624) hx hb d_law_154 (by decide) (fun _ => kk S2 V2 H2 locs2 I2 hH2) (fun z => absurd rfl z)
theorem lw_case_1 (C0 : lw_At p s m meth c b L xs) (hK : am_Kn D tc s) (I : Inv S V) (hH : lw_H D tc s (hs S V) H locs) (hl : lv_has ls 4 [(0, .ref b), (1, .ref (s.heap.size + 0)), (2, .ref (s.heap.size + 93)), (3, .int (nI i))]) (hL : L ≤ 3072) (hi : i + 6 ≤ L) (kk : ∀ (S' : st_S) (V' : st_V) (H' : Heap) (locs' : List Loc), Inv S' V' → lw_H D tc s (hs S' V') H' locs' → W p l e room_1 s m #[Value.ref b] below meth c H' locs' 121 2508 Q (F0 m 624 ls [])) : W p l e room_1 s m #[Value.ref b] below meth c H locs 121 2508 Q (F0 m 159 ls []) := by
  have hx := C0.1
  have hb := C0.2.1
  obtain ⟨r, S1, V1, S2, V2, e1, e2, I2⟩ := step_allow I (xs (i + 1)) (xs (i + 2)) (xs (i + 3))
  refine lv_aload_n hx hb d_law_159 rfl (lv_at hl 1 rfl) ?_
  refine lw_arg (lv := []) (k := 1) C0 hH hl hL (by omega) d_law_160 d_law_161 d_law_162 d_law_163 d_law_164 ?_
  refine lw_arg (lv := []) (k := 2) C0 hH hl hL (by omega) d_law_165 d_law_166 d_law_167 d_law_168 d_law_169 ?_
  refine lw_arg (lv := []) (k := 3) C0 hH hl hL (by omega) d_law_170 d_law_171 d_law_172 d_law_173 d_law_174 ?_
  refine lw_call (lv := []) (a := 0) (as := [.int (xs (i + 1)), .int (xs (i + 2)), .int (xs (i + 3))]) (rest := []) (q := q_Tap_allow) C0 hK hH rfl e1 rfl rfl (by show (parseMethodDescriptor q_Tap_allow.1.desc).map (fun d => d.parameters.length) = some 3; decide +kernel) lwl_175 lwm_175 lws_175 rfl rfl rfl (by decide) (by decide) (by show 0 ≤ 8; decide) hl.1 rfl d_law_175 (fun H1 locs1 hH1 => ?_)
  refine lv_aload_n hx hb d_law_178 rfl (lv_at hl 2 rfl) ?_
  refine lw_arg (lv := []) (k := 1) C0 hH1 hl hL (by omega) d_law_179 d_law_180 d_law_181 d_law_182 d_law_183 ?_
  refine lw_arg (lv := []) (k := 2) C0 hH1 hl hL (by omega) d_law_184 d_law_185 d_law_186 d_law_187 d_law_188 ?_
  refine lw_arg (lv := []) (k := 3) C0 hH1 hl hL (by omega) d_law_189 d_law_190 d_law_191 d_law_192 d_law_193 ?_
  refine lw_call (lv := []) (a := 93) (as := [.int (xs (i + 1)), .int (xs (i + 2)), .int (xs (i + 3))]) (rest := [.int r]) (q := q_Mod_allow) C0 hK hH1 rfl e2 rfl rfl (by show (parseMethodDescriptor q_Mod_allow.1.desc).map (fun d => d.parameters.length) = some 3; decide +kernel) lwl_194 lwm_194 lws_194 rfl rfl rfl (by decide) (by decide) (by show 1 ≤ 8; decide) hl.1 rfl d_law_194 (fun H2 locs2 hH2 => ?_)
  exact lv_icmp_eq (tgt := 624) hx hb d_law_197 (by decide) (fun _ => kk S2 V2 H2 locs2 I2 hH2) (fun z => absurd rfl z)
theorem lw_case_2 (C0 : lw_At p s m meth c b L xs) (hK : am_Kn D tc s) (I : Inv S V) (hH : lw_H D tc s (hs S V) H locs) (hl : lv_has ls 4 [(0, .ref b), (1, .ref (s.heap.size + 0)), (2, .ref (s.heap.size + 93)), (3, .int (nI i))]) (hL : L ≤ 3072) (hi : i + 6 ≤ L) (kk : ∀ (S' : st_S) (V' : st_V) (H' : Heap) (locs' : List Loc), Inv S' V' → lw_H D tc s (hs S' V') H' locs' → W p l e room_1 s m #[Value.ref b] below meth c H' locs' 121 2508 Q (F0 m 624 ls [])) : W p l e room_1 s m #[Value.ref b] below meth c H locs 121 2508 Q (F0 m 202 ls []) := by
  have hx := C0.1
  have hb := C0.2.1
  obtain ⟨r, S1, V1, S2, V2, e1, e2, I2⟩ := step_write I (xs (i + 1)) (xs (i + 2)) (xs (i + 3))
  refine lv_aload_n hx hb d_law_202 rfl (lv_at hl 1 rfl) ?_
  refine lw_arg (lv := []) (k := 1) C0 hH hl hL (by omega) d_law_203 d_law_204 d_law_205 d_law_206 d_law_207 ?_
  refine lw_arg (lv := []) (k := 2) C0 hH hl hL (by omega) d_law_208 d_law_209 d_law_210 d_law_211 d_law_212 ?_
  refine lw_arg (lv := []) (k := 3) C0 hH hl hL (by omega) d_law_213 d_law_214 d_law_215 d_law_216 d_law_217 ?_
  refine lw_call (lv := []) (a := 0) (as := [.int (xs (i + 1)), .int (xs (i + 2)), .int (xs (i + 3))]) (rest := []) (q := q_Tap_write) C0 hK hH rfl e1 rfl rfl (by show (parseMethodDescriptor q_Tap_write.1.desc).map (fun d => d.parameters.length) = some 3; decide +kernel) lwl_218 lwm_218 lws_218 rfl rfl rfl (by decide) (by decide) (by show 0 ≤ 8; decide) hl.1 rfl d_law_218 (fun H1 locs1 hH1 => ?_)
  refine lv_aload_n hx hb d_law_221 rfl (lv_at hl 2 rfl) ?_
  refine lw_arg (lv := []) (k := 1) C0 hH1 hl hL (by omega) d_law_222 d_law_223 d_law_224 d_law_225 d_law_226 ?_
  refine lw_arg (lv := []) (k := 2) C0 hH1 hl hL (by omega) d_law_227 d_law_228 d_law_229 d_law_230 d_law_231 ?_
  refine lw_arg (lv := []) (k := 3) C0 hH1 hl hL (by omega) d_law_232 d_law_233 d_law_234 d_law_235 d_law_236 ?_
  refine lw_call (lv := []) (a := 93) (as := [.int (xs (i + 1)), .int (xs (i + 2)), .int (xs (i + 3))]) (rest := [.int r]) (q := q_Mod_write) C0 hK hH1 rfl e2 rfl rfl (by show (parseMethodDescriptor q_Mod_write.1.desc).map (fun d => d.parameters.length) = some 3; decide +kernel) lwl_237 lwm_237 lws_237 rfl rfl rfl (by decide) (by decide) (by show 1 ≤ 8; decide) hl.1 rfl d_law_237 (fun H2 locs2 hH2 => ?_)
  exact lv_icmp_eq (tgt := 624) hx hb d_law_240 (by decide) (fun _ => kk S2 V2 H2 locs2 I2 hH2) (fun z => absurd rfl z)
theorem lw_case_3 (C0 : lw_At p s m meth c b L xs) (hK : am_Kn D tc s) (I : Inv S V) (hH : lw_H D tc s (hs S V) H locs) (hl : lv_has ls 4 [(0, .ref b), (1, .ref (s.heap.size + 0)), (2, .ref (s.heap.size + 93)), (3, .int (nI i))]) (hL : L ≤ 3072) (hi : i + 6 ≤ L) (kk : ∀ (S' : st_S) (V' : st_V) (H' : Heap) (locs' : List Loc), Inv S' V' → lw_H D tc s (hs S' V') H' locs' → W p l e room_1 s m #[Value.ref b] below meth c H' locs' 121 2508 Q (F0 m 624 ls [])) : W p l e room_1 s m #[Value.ref b] below meth c H locs 121 2508 Q (F0 m 245 ls []) := by
  have hx := C0.1
  have hb := C0.2.1
  obtain ⟨r, S1, V1, S2, V2, e1, e2, I2⟩ := step_field I (xs (i + 1)) (nzb (xs (i + 2))) (nzb_01 _)
  refine lv_aload_n hx hb d_law_245 rfl (lv_at hl 1 rfl) ?_
  refine lw_arg (lv := []) (k := 1) C0 hH hl hL (by omega) d_law_246 d_law_247 d_law_248 d_law_249 d_law_250 ?_
  refine lw_arg (lv := []) (k := 2) C0 hH hl hL (by omega) d_law_251 d_law_252 d_law_253 d_law_254 d_law_255 ?_
  refine lw_bool C0 d_law_256 d_law_259 d_law_260 d_law_263 ?_
  refine lw_call (lv := []) (a := 0) (as := [.int (xs (i + 1)), .int (nzb (xs (i + 2)))]) (rest := []) (q := q_Tap_field) C0 hK hH rfl e1 rfl rfl (by show (parseMethodDescriptor q_Tap_field.1.desc).map (fun d => d.parameters.length) = some 2; decide +kernel) lwl_264 lwm_264 lws_264 rfl rfl rfl (by decide) (by decide) (by show 0 ≤ 8; decide) hl.1 rfl d_law_264 (fun H1 locs1 hH1 => ?_)
  refine lv_aload_n hx hb d_law_267 rfl (lv_at hl 2 rfl) ?_
  refine lw_arg (lv := []) (k := 1) C0 hH1 hl hL (by omega) d_law_268 d_law_269 d_law_270 d_law_271 d_law_272 ?_
  refine lw_arg (lv := []) (k := 2) C0 hH1 hl hL (by omega) d_law_273 d_law_274 d_law_275 d_law_276 d_law_277 ?_
  refine lw_bool C0 d_law_278 d_law_281 d_law_282 d_law_285 ?_
  refine lw_call (lv := []) (a := 93) (as := [.int (xs (i + 1)), .int (nzb (xs (i + 2)))]) (rest := [.int r]) (q := q_Mod_field) C0 hK hH1 rfl e2 rfl rfl (by show (parseMethodDescriptor q_Mod_field.1.desc).map (fun d => d.parameters.length) = some 2; decide +kernel) lwl_286 lwm_286 lws_286 rfl rfl rfl (by decide) (by decide) (by show 1 ≤ 8; decide) hl.1 rfl d_law_286 (fun H2 locs2 hH2 => ?_)
  exact lv_icmp_eq (tgt := 624) hx hb d_law_289 (by decide) (fun _ => kk S2 V2 H2 locs2 I2 hH2) (fun z => absurd rfl z)
theorem lw_case_4 (C0 : lw_At p s m meth c b L xs) (hK : am_Kn D tc s) (I : Inv S V) (hH : lw_H D tc s (hs S V) H locs) (hl : lv_has ls 4 [(0, .ref b), (1, .ref (s.heap.size + 0)), (2, .ref (s.heap.size + 93)), (3, .int (nI i))]) (hL : L ≤ 3072) (hi : i + 6 ≤ L) (kk : ∀ (S' : st_S) (V' : st_V) (H' : Heap) (locs' : List Loc), Inv S' V' → lw_H D tc s (hs S' V') H' locs' → W p l e room_1 s m #[Value.ref b] below meth c H' locs' 121 2508 Q (F0 m 624 ls [])) : W p l e room_1 s m #[Value.ref b] below meth c H locs 121 2508 Q (F0 m 294 ls []) := by
  have hx := C0.1
  have hb := C0.2.1
  obtain ⟨r, S1, V1, S2, V2, e1, e2, I2⟩ := step_terminal I (xs (i + 1)) (xs (i + 2)) (xs (i + 3)) (nzb (xs (i + 4))) (xs (i + 5)) (nzb_01 _)
  refine lv_aload_n hx hb d_law_294 rfl (lv_at hl 1 rfl) ?_
  refine lw_arg (lv := []) (k := 1) C0 hH hl hL (by omega) d_law_295 d_law_296 d_law_297 d_law_298 d_law_299 ?_
  refine lw_arg (lv := []) (k := 2) C0 hH hl hL (by omega) d_law_300 d_law_301 d_law_302 d_law_303 d_law_304 ?_
  refine lw_arg (lv := []) (k := 3) C0 hH hl hL (by omega) d_law_305 d_law_306 d_law_307 d_law_308 d_law_309 ?_
  refine lw_arg (lv := []) (k := 4) C0 hH hl hL (by omega) d_law_310 d_law_311 d_law_312 d_law_313 d_law_314 ?_
  refine lw_bool C0 d_law_315 d_law_318 d_law_319 d_law_322 ?_
  refine lw_arg (lv := []) (k := 5) C0 hH hl hL (by omega) d_law_323 d_law_324 d_law_325 d_law_326 d_law_327 ?_
  refine lw_call (lv := []) (a := 0) (as := [.int (xs (i + 1)), .int (xs (i + 2)), .int (xs (i + 3)), .int (nzb (xs (i + 4))), .int (xs (i + 5))]) (rest := []) (q := q_Tap_terminal) C0 hK hH rfl e1 rfl rfl (by show (parseMethodDescriptor q_Tap_terminal.1.desc).map (fun d => d.parameters.length) = some 5; decide +kernel) lwl_328 lwm_328 lws_328 rfl rfl rfl (by decide) (by decide) (by show 0 ≤ 8; decide) hl.1 rfl d_law_328 (fun H1 locs1 hH1 => ?_)
  refine lv_aload_n hx hb d_law_331 rfl (lv_at hl 2 rfl) ?_
  refine lw_arg (lv := []) (k := 1) C0 hH1 hl hL (by omega) d_law_332 d_law_333 d_law_334 d_law_335 d_law_336 ?_
  refine lw_arg (lv := []) (k := 2) C0 hH1 hl hL (by omega) d_law_337 d_law_338 d_law_339 d_law_340 d_law_341 ?_
  refine lw_arg (lv := []) (k := 3) C0 hH1 hl hL (by omega) d_law_342 d_law_343 d_law_344 d_law_345 d_law_346 ?_
  refine lw_arg (lv := []) (k := 4) C0 hH1 hl hL (by omega) d_law_347 d_law_348 d_law_349 d_law_350 d_law_351 ?_
  refine lw_bool C0 d_law_352 d_law_355 d_law_356 d_law_359 ?_
  refine lw_arg (lv := []) (k := 5) C0 hH1 hl hL (by omega) d_law_360 d_law_361 d_law_362 d_law_363 d_law_364 ?_
  refine lw_call (lv := []) (a := 93) (as := [.int (xs (i + 1)), .int (xs (i + 2)), .int (xs (i + 3)), .int (nzb (xs (i + 4))), .int (xs (i + 5))]) (rest := [.int r]) (q := q_Mod_terminal) C0 hK hH1 rfl e2 rfl rfl (by show (parseMethodDescriptor q_Mod_terminal.1.desc).map (fun d => d.parameters.length) = some 5; decide +kernel) lwl_365 lwm_365 lws_365 rfl rfl rfl (by decide) (by decide) (by show 1 ≤ 8; decide) hl.1 rfl d_law_365 (fun H2 locs2 hH2 => ?_)
  exact lv_icmp_eq (tgt := 624) hx hb d_law_368 (by decide) (fun _ => kk S2 V2 H2 locs2 I2 hH2) (fun z => absurd rfl z)
theorem lw_case_5 (C0 : lw_At p s m meth c b L xs) (hK : am_Kn D tc s) (I : Inv S V) (hH : lw_H D tc s (hs S V) H locs) (hl : lv_has ls 4 [(0, .ref b), (1, .ref (s.heap.size + 0)), (2, .ref (s.heap.size + 93)), (3, .int (nI i))]) (hL : L ≤ 3072) (hi : i + 6 ≤ L) (kk : ∀ (S' : st_S) (V' : st_V) (H' : Heap) (locs' : List Loc), Inv S' V' → lw_H D tc s (hs S' V') H' locs' → W p l e room_1 s m #[Value.ref b] below meth c H' locs' 121 2508 Q (F0 m 624 ls [])) : W p l e room_1 s m #[Value.ref b] below meth c H locs 121 2508 Q (F0 m 373 ls []) := by
  have hx := C0.1
  have hb := C0.2.1
  obtain ⟨r, S1, V1, S2, V2, e1, e2, I2⟩ := step_takes I (xs (i + 1))
  refine lv_aload_n hx hb d_law_373 rfl (lv_at hl 1 rfl) ?_
  refine lw_arg (lv := []) (k := 1) C0 hH hl hL (by omega) d_law_374 d_law_375 d_law_376 d_law_377 d_law_378 ?_
  refine lw_call (lv := []) (a := 0) (as := [.int (xs (i + 1))]) (rest := []) (q := q_Tap_takes) C0 hK hH rfl e1 rfl rfl (by show (parseMethodDescriptor q_Tap_takes.1.desc).map (fun d => d.parameters.length) = some 1; decide +kernel) lwl_379 lwm_379 lws_379 rfl rfl rfl (by decide) (by decide) (by show 0 ≤ 8; decide) hl.1 rfl d_law_379 (fun H1 locs1 hH1 => ?_)
  refine lv_aload_n hx hb d_law_382 rfl (lv_at hl 2 rfl) ?_
  refine lw_arg (lv := []) (k := 1) C0 hH1 hl hL (by omega) d_law_383 d_law_384 d_law_385 d_law_386 d_law_387 ?_
  refine lw_call (lv := []) (a := 93) (as := [.int (xs (i + 1))]) (rest := [.int r]) (q := q_Mod_takes) C0 hK hH1 rfl e2 rfl rfl (by show (parseMethodDescriptor q_Mod_takes.1.desc).map (fun d => d.parameters.length) = some 1; decide +kernel) lwl_388 lwm_388 lws_388 rfl rfl rfl (by decide) (by decide) (by show 1 ≤ 8; decide) hl.1 rfl d_law_388 (fun H2 locs2 hH2 => ?_)
  exact lv_icmp_eq (tgt := 624) hx hb d_law_391 (by decide) (fun _ => kk S2 V2 H2 locs2 I2 hH2) (fun z => absurd rfl z)
theorem lw_case_6 (C0 : lw_At p s m meth c b L xs) (hK : am_Kn D tc s) (I : Inv S V) (hH : lw_H D tc s (hs S V) H locs) (hl : lv_has ls 4 [(0, .ref b), (1, .ref (s.heap.size + 0)), (2, .ref (s.heap.size + 93)), (3, .int (nI i))]) (hL : L ≤ 3072) (hi : i + 6 ≤ L) (kk : ∀ (S' : st_S) (V' : st_V) (H' : Heap) (locs' : List Loc), Inv S' V' → lw_H D tc s (hs S' V') H' locs' → W p l e room_1 s m #[Value.ref b] below meth c H' locs' 121 2508 Q (F0 m 624 ls [])) : W p l e room_1 s m #[Value.ref b] below meth c H locs 121 2508 Q (F0 m 396 ls []) := by
  have hx := C0.1
  have hb := C0.2.1
  obtain ⟨r, S1, V1, S2, V2, e1, e2, I2⟩ := step_fault I (xs (i + 1)) (xs (i + 2))
  refine lv_aload_n hx hb d_law_396 rfl (lv_at hl 1 rfl) ?_
  refine lw_arg (lv := []) (k := 1) C0 hH hl hL (by omega) d_law_397 d_law_398 d_law_399 d_law_400 d_law_401 ?_
  refine lw_arg (lv := []) (k := 2) C0 hH hl hL (by omega) d_law_402 d_law_403 d_law_404 d_law_405 d_law_406 ?_
  refine lw_call (lv := []) (a := 0) (as := [.int (xs (i + 1)), .int (xs (i + 2))]) (rest := []) (q := q_Tap_fault) C0 hK hH rfl e1 rfl rfl (by show (parseMethodDescriptor q_Tap_fault.1.desc).map (fun d => d.parameters.length) = some 2; decide +kernel) lwl_407 lwm_407 lws_407 rfl rfl rfl (by decide) (by decide) (by show 0 ≤ 8; decide) hl.1 rfl d_law_407 (fun H1 locs1 hH1 => ?_)
  refine lv_aload_n hx hb d_law_410 rfl (lv_at hl 2 rfl) ?_
  refine lw_arg (lv := []) (k := 1) C0 hH1 hl hL (by omega) d_law_411 d_law_412 d_law_413 d_law_414 d_law_415 ?_
  refine lw_arg (lv := []) (k := 2) C0 hH1 hl hL (by omega) d_law_416 d_law_417 d_law_418 d_law_419 d_law_420 ?_
  refine lw_call (lv := []) (a := 93) (as := [.int (xs (i + 1)), .int (xs (i + 2))]) (rest := [.int r]) (q := q_Mod_fault) C0 hK hH1 rfl e2 rfl rfl (by show (parseMethodDescriptor q_Mod_fault.1.desc).map (fun d => d.parameters.length) = some 2; decide +kernel) lwl_421 lwm_421 lws_421 rfl rfl rfl (by decide) (by decide) (by show 1 ≤ 8; decide) hl.1 rfl d_law_421 (fun H2 locs2 hH2 => ?_)
  exact lv_icmp_eq (tgt := 624) hx hb d_law_424 (by decide) (fun _ => kk S2 V2 H2 locs2 I2 hH2) (fun z => absurd rfl z)
theorem lw_case_7 (C0 : lw_At p s m meth c b L xs) (hK : am_Kn D tc s) (I : Inv S V) (hH : lw_H D tc s (hs S V) H locs) (hl : lv_has ls 4 [(0, .ref b), (1, .ref (s.heap.size + 0)), (2, .ref (s.heap.size + 93)), (3, .int (nI i))]) (hL : L ≤ 3072) (hi : i + 6 ≤ L) (kk : ∀ (S' : st_S) (V' : st_V) (H' : Heap) (locs' : List Loc), Inv S' V' → lw_H D tc s (hs S' V') H' locs' → W p l e room_1 s m #[Value.ref b] below meth c H' locs' 121 2508 Q (F0 m 624 ls [])) : W p l e room_1 s m #[Value.ref b] below meth c H locs 121 2508 Q (F0 m 429 ls []) := by
  have hx := C0.1
  have hb := C0.2.1
  obtain ⟨r, S1, V1, S2, V2, e1, e2, I2⟩ := step_run I (xs (i + 1)) (xs (i + 2)) (xs (i + 3))
  refine lv_aload_n hx hb d_law_429 rfl (lv_at hl 1 rfl) ?_
  refine lw_arg (lv := []) (k := 1) C0 hH hl hL (by omega) d_law_430 d_law_431 d_law_432 d_law_433 d_law_434 ?_
  refine lw_arg (lv := []) (k := 2) C0 hH hl hL (by omega) d_law_435 d_law_436 d_law_437 d_law_438 d_law_439 ?_
  refine lw_arg (lv := []) (k := 3) C0 hH hl hL (by omega) d_law_440 d_law_441 d_law_442 d_law_443 d_law_444 ?_
  refine lw_call (lv := []) (a := 0) (as := [.int (xs (i + 1)), .int (xs (i + 2)), .int (xs (i + 3))]) (rest := []) (q := q_Tap_run) C0 hK hH rfl e1 rfl rfl (by show (parseMethodDescriptor q_Tap_run.1.desc).map (fun d => d.parameters.length) = some 3; decide +kernel) lwl_445 lwm_445 lws_445 rfl rfl rfl (by decide) (by decide) (by show 0 ≤ 8; decide) hl.1 rfl d_law_445 (fun H1 locs1 hH1 => ?_)
  refine lv_aload_n hx hb d_law_448 rfl (lv_at hl 2 rfl) ?_
  refine lw_arg (lv := []) (k := 1) C0 hH1 hl hL (by omega) d_law_449 d_law_450 d_law_451 d_law_452 d_law_453 ?_
  refine lw_arg (lv := []) (k := 2) C0 hH1 hl hL (by omega) d_law_454 d_law_455 d_law_456 d_law_457 d_law_458 ?_
  refine lw_arg (lv := []) (k := 3) C0 hH1 hl hL (by omega) d_law_459 d_law_460 d_law_461 d_law_462 d_law_463 ?_
  refine lw_call (lv := []) (a := 93) (as := [.int (xs (i + 1)), .int (xs (i + 2)), .int (xs (i + 3))]) (rest := [.int r]) (q := q_Mod_run) C0 hK hH1 rfl e2 rfl rfl (by show (parseMethodDescriptor q_Mod_run.1.desc).map (fun d => d.parameters.length) = some 3; decide +kernel) lwl_464 lwm_464 lws_464 rfl rfl rfl (by decide) (by decide) (by show 1 ≤ 8; decide) hl.1 rfl d_law_464 (fun H2 locs2 hH2 => ?_)
  exact lv_icmp_eq (tgt := 624) hx hb d_law_467 (by decide) (fun _ => kk S2 V2 H2 locs2 I2 hH2) (fun z => absurd rfl z)
theorem lw_case_8 (C0 : lw_At p s m meth c b L xs) (hK : am_Kn D tc s) (I : Inv S V) (hH : lw_H D tc s (hs S V) H locs) (hl : lv_has ls 4 [(0, .ref b), (1, .ref (s.heap.size + 0)), (2, .ref (s.heap.size + 93)), (3, .int (nI i))]) (hL : L ≤ 3072) (hi : i + 6 ≤ L) (kk : ∀ (S' : st_S) (V' : st_V) (H' : Heap) (locs' : List Loc), Inv S' V' → lw_H D tc s (hs S' V') H' locs' → W p l e room_1 s m #[Value.ref b] below meth c H' locs' 121 2508 Q (F0 m 624 ls [])) : W p l e room_1 s m #[Value.ref b] below meth c H locs 121 2508 Q (F0 m 472 ls []) := by
  have hx := C0.1
  have hb := C0.2.1
  obtain ⟨r, S1, V1, S2, V2, e1, e2, I2⟩ := step_told I (xs (i + 1))
  refine lv_aload_n hx hb d_law_472 rfl (lv_at hl 1 rfl) ?_
  refine lw_arg (lv := []) (k := 1) C0 hH hl hL (by omega) d_law_473 d_law_474 d_law_475 d_law_476 d_law_477 ?_
  refine lw_call (lv := []) (a := 0) (as := [.int (xs (i + 1))]) (rest := []) (q := q_Tap_told) C0 hK hH rfl e1 rfl rfl (by show (parseMethodDescriptor q_Tap_told.1.desc).map (fun d => d.parameters.length) = some 1; decide +kernel) lwl_478 lwm_478 lws_478 rfl rfl rfl (by decide) (by decide) (by show 0 ≤ 8; decide) hl.1 rfl d_law_478 (fun H1 locs1 hH1 => ?_)
  refine lv_aload_n hx hb d_law_481 rfl (lv_at hl 2 rfl) ?_
  refine lw_arg (lv := []) (k := 1) C0 hH1 hl hL (by omega) d_law_482 d_law_483 d_law_484 d_law_485 d_law_486 ?_
  refine lw_call (lv := []) (a := 93) (as := [.int (xs (i + 1))]) (rest := [.int r]) (q := q_Mod_told) C0 hK hH1 rfl e2 rfl rfl (by show (parseMethodDescriptor q_Mod_told.1.desc).map (fun d => d.parameters.length) = some 1; decide +kernel) lwl_487 lwm_487 lws_487 rfl rfl rfl (by decide) (by decide) (by show 1 ≤ 8; decide) hl.1 rfl d_law_487 (fun H2 locs2 hH2 => ?_)
  exact lv_icmp_eq (tgt := 624) hx hb d_law_490 (by decide) (fun _ => kk S2 V2 H2 locs2 I2 hH2) (fun z => absurd rfl z)
theorem lw_case_9 (C0 : lw_At p s m meth c b L xs) (hK : am_Kn D tc s) (I : Inv S V) (hH : lw_H D tc s (hs S V) H locs) (hl : lv_has ls 4 [(0, .ref b), (1, .ref (s.heap.size + 0)), (2, .ref (s.heap.size + 93)), (3, .int (nI i))]) (hL : L ≤ 3072) (hi : i + 6 ≤ L) (kk : ∀ (S' : st_S) (V' : st_V) (H' : Heap) (locs' : List Loc), Inv S' V' → lw_H D tc s (hs S' V') H' locs' → W p l e room_1 s m #[Value.ref b] below meth c H' locs' 121 2508 Q (F0 m 624 ls [])) : W p l e room_1 s m #[Value.ref b] below meth c H locs 121 2508 Q (F0 m 495 ls []) := by
  have hx := C0.1
  have hb := C0.2.1
  obtain ⟨r, S1, V1, S2, V2, e1, e2, I2⟩ := step_exchange I (xs (i + 1)) (xs (i + 2))
  refine lv_aload_n hx hb d_law_495 rfl (lv_at hl 1 rfl) ?_
  refine lw_arg (lv := []) (k := 1) C0 hH hl hL (by omega) d_law_496 d_law_497 d_law_498 d_law_499 d_law_500 ?_
  refine lw_arg (lv := []) (k := 2) C0 hH hl hL (by omega) d_law_501 d_law_502 d_law_503 d_law_504 d_law_505 ?_
  refine lw_call (lv := []) (a := 0) (as := [.int (xs (i + 1)), .int (xs (i + 2))]) (rest := []) (q := q_Tap_exchange) C0 hK hH rfl e1 rfl rfl (by show (parseMethodDescriptor q_Tap_exchange.1.desc).map (fun d => d.parameters.length) = some 2; decide +kernel) lwl_506 lwm_506 lws_506 rfl rfl rfl (by decide) (by decide) (by show 0 ≤ 8; decide) hl.1 rfl d_law_506 (fun H1 locs1 hH1 => ?_)
  refine lv_aload_n hx hb d_law_509 rfl (lv_at hl 2 rfl) ?_
  refine lw_arg (lv := []) (k := 1) C0 hH1 hl hL (by omega) d_law_510 d_law_511 d_law_512 d_law_513 d_law_514 ?_
  refine lw_arg (lv := []) (k := 2) C0 hH1 hl hL (by omega) d_law_515 d_law_516 d_law_517 d_law_518 d_law_519 ?_
  refine lw_call (lv := []) (a := 93) (as := [.int (xs (i + 1)), .int (xs (i + 2))]) (rest := [.int r]) (q := q_Mod_exchange) C0 hK hH1 rfl e2 rfl rfl (by show (parseMethodDescriptor q_Mod_exchange.1.desc).map (fun d => d.parameters.length) = some 2; decide +kernel) lwl_520 lwm_520 lws_520 rfl rfl rfl (by decide) (by decide) (by show 1 ≤ 8; decide) hl.1 rfl d_law_520 (fun H2 locs2 hH2 => ?_)
  exact lv_icmp_eq (tgt := 624) hx hb d_law_523 (by decide) (fun _ => kk S2 V2 H2 locs2 I2 hH2) (fun z => absurd rfl z)
theorem lw_case_10 (C0 : lw_At p s m meth c b L xs) (hK : am_Kn D tc s) (I : Inv S V) (hH : lw_H D tc s (hs S V) H locs) (hl : lv_has ls 4 [(0, .ref b), (1, .ref (s.heap.size + 0)), (2, .ref (s.heap.size + 93)), (3, .int (nI i))]) (hL : L ≤ 3072) (hi : i + 6 ≤ L) (kk : ∀ (S' : st_S) (V' : st_V) (H' : Heap) (locs' : List Loc), Inv S' V' → lw_H D tc s (hs S' V') H' locs' → W p l e room_1 s m #[Value.ref b] below meth c H' locs' 121 2508 Q (F0 m 624 ls [])) : W p l e room_1 s m #[Value.ref b] below meth c H locs 121 2508 Q (F0 m 528 ls []) := by
  have hx := C0.1
  have hb := C0.2.1
  obtain ⟨r, S1, V1, S2, V2, e1, e2, I2⟩ := step_look I (xs (i + 1)) (xs (i + 2))
  refine lv_aload_n hx hb d_law_528 rfl (lv_at hl 1 rfl) ?_
  refine lw_arg (lv := []) (k := 1) C0 hH hl hL (by omega) d_law_529 d_law_530 d_law_531 d_law_532 d_law_533 ?_
  refine lw_arg (lv := []) (k := 2) C0 hH hl hL (by omega) d_law_534 d_law_535 d_law_536 d_law_537 d_law_538 ?_
  refine lw_call (lv := []) (a := 0) (as := [.int (xs (i + 1)), .int (xs (i + 2))]) (rest := []) (q := q_Tap_look) C0 hK hH rfl e1 rfl rfl (by show (parseMethodDescriptor q_Tap_look.1.desc).map (fun d => d.parameters.length) = some 2; decide +kernel) lwl_539 lwm_539 lws_539 rfl rfl rfl (by decide) (by decide) (by show 0 ≤ 8; decide) hl.1 rfl d_law_539 (fun H1 locs1 hH1 => ?_)
  refine lv_aload_n hx hb d_law_542 rfl (lv_at hl 2 rfl) ?_
  refine lw_arg (lv := []) (k := 1) C0 hH1 hl hL (by omega) d_law_543 d_law_544 d_law_545 d_law_546 d_law_547 ?_
  refine lw_arg (lv := []) (k := 2) C0 hH1 hl hL (by omega) d_law_548 d_law_549 d_law_550 d_law_551 d_law_552 ?_
  refine lw_call (lv := []) (a := 93) (as := [.int (xs (i + 1)), .int (xs (i + 2))]) (rest := [.int r]) (q := q_Mod_look) C0 hK hH1 rfl e2 rfl rfl (by show (parseMethodDescriptor q_Mod_look.1.desc).map (fun d => d.parameters.length) = some 2; decide +kernel) lwl_553 lwm_553 lws_553 rfl rfl rfl (by decide) (by decide) (by show 1 ≤ 8; decide) hl.1 rfl d_law_553 (fun H2 locs2 hH2 => ?_)
  exact lv_icmp_eq (tgt := 624) hx hb d_law_556 (by decide) (fun _ => kk S2 V2 H2 locs2 I2 hH2) (fun z => absurd rfl z)
theorem lw_case_11 (C0 : lw_At p s m meth c b L xs) (hK : am_Kn D tc s) (I : Inv S V) (hH : lw_H D tc s (hs S V) H locs) (hl : lv_has ls 4 [(0, .ref b), (1, .ref (s.heap.size + 0)), (2, .ref (s.heap.size + 93)), (3, .int (nI i))]) (hL : L ≤ 3072) (hi : i + 6 ≤ L) (kk : ∀ (S' : st_S) (V' : st_V) (H' : Heap) (locs' : List Loc), Inv S' V' → lw_H D tc s (hs S' V') H' locs' → W p l e room_1 s m #[Value.ref b] below meth c H' locs' 121 2508 Q (F0 m 624 ls [])) : W p l e room_1 s m #[Value.ref b] below meth c H locs 121 2508 Q (F0 m 561 ls []) := by
  have hx := C0.1
  have hb := C0.2.1
  obtain ⟨r, S1, V1, S2, V2, e1, e2, I2⟩ := step_mix I (xs (i + 1)) (xs (i + 2)) (xs (i + 3)) (xs (i + 4)) (xs (i + 5))
  refine lv_aload_n hx hb d_law_561 rfl (lv_at hl 1 rfl) ?_
  refine lw_arg (lv := []) (k := 1) C0 hH hl hL (by omega) d_law_562 d_law_563 d_law_564 d_law_565 d_law_566 ?_
  refine lw_arg (lv := []) (k := 2) C0 hH hl hL (by omega) d_law_567 d_law_568 d_law_569 d_law_570 d_law_571 ?_
  refine lw_arg (lv := []) (k := 3) C0 hH hl hL (by omega) d_law_572 d_law_573 d_law_574 d_law_575 d_law_576 ?_
  refine lw_arg (lv := []) (k := 4) C0 hH hl hL (by omega) d_law_577 d_law_578 d_law_579 d_law_580 d_law_581 ?_
  refine lw_arg (lv := []) (k := 5) C0 hH hl hL (by omega) d_law_582 d_law_583 d_law_584 d_law_585 d_law_586 ?_
  refine lw_call (lv := []) (a := 0) (as := [.int (xs (i + 1)), .int (xs (i + 2)), .int (xs (i + 3)), .int (xs (i + 4)), .int (xs (i + 5))]) (rest := []) (q := q_Tap_mix) C0 hK hH rfl e1 rfl rfl (by show (parseMethodDescriptor q_Tap_mix.1.desc).map (fun d => d.parameters.length) = some 5; decide +kernel) lwl_587 lwm_587 lws_587 rfl rfl rfl (by decide) (by decide) (by show 0 ≤ 8; decide) hl.1 rfl d_law_587 (fun H1 locs1 hH1 => ?_)
  refine lv_aload_n hx hb d_law_590 rfl (lv_at hl 2 rfl) ?_
  refine lw_arg (lv := []) (k := 1) C0 hH1 hl hL (by omega) d_law_591 d_law_592 d_law_593 d_law_594 d_law_595 ?_
  refine lw_arg (lv := []) (k := 2) C0 hH1 hl hL (by omega) d_law_596 d_law_597 d_law_598 d_law_599 d_law_600 ?_
  refine lw_arg (lv := []) (k := 3) C0 hH1 hl hL (by omega) d_law_601 d_law_602 d_law_603 d_law_604 d_law_605 ?_
  refine lw_arg (lv := []) (k := 4) C0 hH1 hl hL (by omega) d_law_606 d_law_607 d_law_608 d_law_609 d_law_610 ?_
  refine lw_arg (lv := []) (k := 5) C0 hH1 hl hL (by omega) d_law_611 d_law_612 d_law_613 d_law_614 d_law_615 ?_
  refine lw_call (lv := []) (a := 93) (as := [.int (xs (i + 1)), .int (xs (i + 2)), .int (xs (i + 3)), .int (xs (i + 4)), .int (xs (i + 5))]) (rest := [.int r]) (q := q_Mod_mix) C0 hK hH1 rfl e2 rfl rfl (by show (parseMethodDescriptor q_Mod_mix.1.desc).map (fun d => d.parameters.length) = some 5; decide +kernel) lwl_616 lwm_616 lws_616 rfl rfl rfl (by decide) (by decide) (by show 1 ≤ 8; decide) hl.1 rfl d_law_616 (fun H2 locs2 hH2 => ?_)
  exact lv_icmp_eq (tgt := 624) hx hb d_law_619 (by decide) (fun _ => kk S2 V2 H2 locs2 I2 hH2) (fun z => absurd rfl z)
end LWK
