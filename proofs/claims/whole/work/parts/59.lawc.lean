section LAWC
variable {p : Program} {l : Launch} {e : Env} {R : Room} {s : State} {m : MethodId} {args : Array Value} {below : List Frame} {meth : Method} {c : Code} {b : Nat} {D : va_G} {dA : Nat → ClassId} {z0 : Nat} {Q : State → Prop} {bs N i : Nat} {xs : Nat → Int32} {h : ax_H} {B K : Nat → List Pt3} {km : Nat}
theorem lc_put (C : ax_C p R s m args meth c b D dA 4 0 code RL 10) (X : va_X bs N xs s s.heap) (hb : s.heap.size = b) (hbs : bs < s.heap.size) (hN : N ≤ 2560) (hi : i + 5 ≤ N) (Hw : wd h B K km) (Hm : mw h 169 B K km) (k : ∀ (B2 K2 : Nat → List Pt3) (km2 : Nat) (h2 : ax_H), wd h2 B2 K2 km2 → mw h2 169 B2 K2 km2 → lw_J p l e R s m args below meth c b D dA 4 0 z0 Q bs 767 [none, some (rv 0), some (rv 169), some (iv (i : Int))] [] h2) : lw_J p l e R s m args below meth c b D dA 4 0 z0 Q bs 116 [none, some (rv 0), some (rv 169), some (iv (i : Int))] [] h := by
  refine j_aload_n C dL_law_116 rfl ?_
  refine j_sld (j := i + 1) C X hb hbs dL_law_117 dL_law_118 dL_law_119 dL_law_120 dL_law_121 rfl (by omega) (by omega) (by omega) ?_
  refine j_sld (j := i + 2) C X hb hbs dL_law_122 dL_law_123 dL_law_124 dL_law_125 dL_law_126 rfl (by omega) (by omega) (by omega) ?_
  refine j_sld (j := i + 3) C X hb hbs dL_law_127 dL_law_128 dL_law_129 dL_law_130 dL_law_131 rfl (by omega) (by omega) (by omega) ?_
  refine j_sld (j := i + 4) C X hb hbs dL_law_132 dL_law_133 dL_law_134 dL_law_135 dL_law_136 rfl (by omega) (by omega) (by omega) ?_
  obtain ⟨fs1, hf1⟩ := Hw.ob0
  refine j_RV C (t_put Hw (x32r (xs (i + 1))) (x32r (xs (i + 2))) (x32r (xs (i + 3))) (x32r (xs (i + 4)))) dL_law_137 KX4_put LL_13 IX4_put VX4_put (by decide) rfl hf1 rfl rfl rfl (Nat.le_of_ble_eq_true rfl) ?_
  intro r1 h1 hP1 _
  obtain ⟨rfl, Hw1, S1⟩ := hP1
  have Hm1 := Hm.lo S1
  dsimp only [Option.toList, List.cons_append, List.nil_append]
  refine j_aload_n C dL_law_140 rfl ?_
  refine j_sld (j := i + 1) C X hb hbs dL_law_141 dL_law_142 dL_law_143 dL_law_144 dL_law_145 rfl (by omega) (by omega) (by omega) ?_
  refine j_sld (j := i + 2) C X hb hbs dL_law_146 dL_law_147 dL_law_148 dL_law_149 dL_law_150 rfl (by omega) (by omega) (by omega) ?_
  refine j_sld (j := i + 3) C X hb hbs dL_law_151 dL_law_152 dL_law_153 dL_law_154 dL_law_155 rfl (by omega) (by omega) (by omega) ?_
  refine j_sld (j := i + 4) C X hb hbs dL_law_156 dL_law_157 dL_law_158 dL_law_159 dL_law_160 rfl (by omega) (by omega) (by omega) ?_
  obtain ⟨fs2, hf2⟩ := Hm1.ob0
  refine j_RV C (r_put Hm1 (x32r (xs (i + 1))) (x32r (xs (i + 2))) (x32r (xs (i + 3))) (x32r (xs (i + 4)))) dL_law_161 KX5_put LL_17 IX5_put VX5_put (by decide) rfl hf2 rfl rfl rfl (Nat.le_of_ble_eq_true rfl) ?_
  intro r2 h2 hP2 _
  obtain ⟨rfl, Hm2, S2⟩ := hP2
  have Hw2 := Hw1.hi S2
  dsimp only [Option.toList, List.cons_append, List.nil_append]
  refine j_same C dL_law_164 (tgt := 767) (by decide) ?_
  exact k _ _ _ _ Hw2 Hm2
theorem lc_take (C : ax_C p R s m args meth c b D dA 4 0 code RL 10) (X : va_X bs N xs s s.heap) (hb : s.heap.size = b) (hbs : bs < s.heap.size) (hN : N ≤ 2560) (hi : i + 5 ≤ N) (Hw : wd h B K km) (Hm : mw h 169 B K km) (k : ∀ (B2 K2 : Nat → List Pt3) (km2 : Nat) (h2 : ax_H), wd h2 B2 K2 km2 → mw h2 169 B2 K2 km2 → lw_J p l e R s m args below meth c b D dA 4 0 z0 Q bs 767 [none, some (rv 0), some (rv 169), some (iv (i : Int))] [] h2) : lw_J p l e R s m args below meth c b D dA 4 0 z0 Q bs 169 [none, some (rv 0), some (rv 169), some (iv (i : Int))] [] h := by
  refine j_aload_n C dL_law_169 rfl ?_
  refine j_sld (j := i + 1) C X hb hbs dL_law_170 dL_law_171 dL_law_172 dL_law_173 dL_law_174 rfl (by omega) (by omega) (by omega) ?_
  refine j_sld (j := i + 2) C X hb hbs dL_law_175 dL_law_176 dL_law_177 dL_law_178 dL_law_179 rfl (by omega) (by omega) (by omega) ?_
  obtain ⟨fs1, hf1⟩ := Hw.ob0
  refine j_RV C (t_take Hw (x32r (xs (i + 1))) (x32r (xs (i + 2)))) dL_law_180 KX4_take LL_18 IX4_take VX4_take (by decide) rfl hf1 rfl rfl rfl (Nat.le_of_ble_eq_true rfl) ?_
  intro r1 h1 hP1 _
  obtain ⟨rfl, Hw1, S1⟩ := hP1
  have Hm1 := Hm.lo S1
  dsimp only [Option.toList, List.cons_append, List.nil_append]
  refine j_aload_n C dL_law_183 rfl ?_
  refine j_sld (j := i + 1) C X hb hbs dL_law_184 dL_law_185 dL_law_186 dL_law_187 dL_law_188 rfl (by omega) (by omega) (by omega) ?_
  refine j_sld (j := i + 2) C X hb hbs dL_law_189 dL_law_190 dL_law_191 dL_law_192 dL_law_193 rfl (by omega) (by omega) (by omega) ?_
  obtain ⟨fs2, hf2⟩ := Hm1.ob0
  refine j_RV C (r_take Hm1 (x32r (xs (i + 1))) (x32r (xs (i + 2)))) dL_law_194 KX5_take LL_22 IX5_take VX5_take (by decide) rfl hf2 rfl rfl rfl (Nat.le_of_ble_eq_true rfl) ?_
  intro r2 h2 hP2 _
  obtain ⟨rfl, Hm2, S2⟩ := hP2
  have Hw2 := Hw1.hi S2
  dsimp only [Option.toList, List.cons_append, List.nil_append]
  refine j_same C dL_law_197 (tgt := 767) (by decide) ?_
  exact k _ _ _ _ Hw2 Hm2
theorem lc_clear (C : ax_C p R s m args meth c b D dA 4 0 code RL 10) (X : va_X bs N xs s s.heap) (hb : s.heap.size = b) (hbs : bs < s.heap.size) (hN : N ≤ 2560) (hi : i + 5 ≤ N) (Hw : wd h B K km) (Hm : mw h 169 B K km) (k : ∀ (B2 K2 : Nat → List Pt3) (km2 : Nat) (h2 : ax_H), wd h2 B2 K2 km2 → mw h2 169 B2 K2 km2 → lw_J p l e R s m args below meth c b D dA 4 0 z0 Q bs 767 [none, some (rv 0), some (rv 169), some (iv (i : Int))] [] h2) : lw_J p l e R s m args below meth c b D dA 4 0 z0 Q bs 202 [none, some (rv 0), some (rv 169), some (iv (i : Int))] [] h := by
  refine j_aload_n C dL_law_202 rfl ?_
  refine j_sld (j := i + 1) C X hb hbs dL_law_203 dL_law_204 dL_law_205 dL_law_206 dL_law_207 rfl (by omega) (by omega) (by omega) ?_
  obtain ⟨fs1, hf1⟩ := Hw.ob0
  refine j_RV C (t_clear Hw (x32r (xs (i + 1)))) dL_law_208 KX4_clear LL_23 IX4_clear VX4_clear (by decide) rfl hf1 rfl rfl rfl (Nat.le_of_ble_eq_true rfl) ?_
  intro r1 h1 hP1 _
  obtain ⟨rfl, Hw1, S1⟩ := hP1
  have Hm1 := Hm.lo S1
  dsimp only [Option.toList, List.cons_append, List.nil_append]
  refine j_aload_n C dL_law_211 rfl ?_
  refine j_sld (j := i + 1) C X hb hbs dL_law_212 dL_law_213 dL_law_214 dL_law_215 dL_law_216 rfl (by omega) (by omega) (by omega) ?_
  obtain ⟨fs2, hf2⟩ := Hm1.ob0
  refine j_RV C (r_clear Hm1 (x32r (xs (i + 1)))) dL_law_217 KX5_clear LL_27 IX5_clear VX5_clear (by decide) rfl hf2 rfl rfl rfl (Nat.le_of_ble_eq_true rfl) ?_
  intro r2 h2 hP2 _
  obtain ⟨rfl, Hm2, S2⟩ := hP2
  have Hw2 := Hw1.hi S2
  dsimp only [Option.toList, List.cons_append, List.nil_append]
  refine j_same C dL_law_220 (tgt := 767) (by decide) ?_
  exact k _ _ _ _ Hw2 Hm2
theorem lc_point (C : ax_C p R s m args meth c b D dA 4 0 code RL 10) (X : va_X bs N xs s s.heap) (hb : s.heap.size = b) (hbs : bs < s.heap.size) (hN : N ≤ 2560) (hi : i + 5 ≤ N) (Hw : wd h B K km) (Hm : mw h 169 B K km) (k : ∀ (B2 K2 : Nat → List Pt3) (km2 : Nat) (h2 : ax_H), wd h2 B2 K2 km2 → mw h2 169 B2 K2 km2 → lw_J p l e R s m args below meth c b D dA 4 0 z0 Q bs 767 [none, some (rv 0), some (rv 169), some (iv (i : Int))] [] h2) : lw_J p l e R s m args below meth c b D dA 4 0 z0 Q bs 225 [none, some (rv 0), some (rv 169), some (iv (i : Int))] [] h := by
  refine j_aload_n C dL_law_225 rfl ?_
  refine j_sld (j := i + 1) C X hb hbs dL_law_226 dL_law_227 dL_law_228 dL_law_229 dL_law_230 rfl (by omega) (by omega) (by omega) ?_
  refine j_sld (j := i + 2) C X hb hbs dL_law_231 dL_law_232 dL_law_233 dL_law_234 dL_law_235 rfl (by omega) (by omega) (by omega) ?_
  refine j_sld (j := i + 3) C X hb hbs dL_law_236 dL_law_237 dL_law_238 dL_law_239 dL_law_240 rfl (by omega) (by omega) (by omega) ?_
  obtain ⟨fs1, hf1⟩ := Hw.ob0
  refine j_RV C (t_point Hw (x32r (xs (i + 1))) (x32r (xs (i + 2))) (x32r (xs (i + 3)))) dL_law_241 KX4_point LL_28 IX4_point VX4_point (by decide) rfl hf1 rfl rfl rfl (Nat.le_of_ble_eq_true rfl) ?_
  intro r1 h1 hP1 _
  obtain ⟨rfl, Hw1, S1⟩ := hP1
  have Hm1 := Hm.lo S1
  dsimp only [Option.toList, List.cons_append, List.nil_append]
  refine j_aload_n C dL_law_244 rfl ?_
  refine j_sld (j := i + 1) C X hb hbs dL_law_245 dL_law_246 dL_law_247 dL_law_248 dL_law_249 rfl (by omega) (by omega) (by omega) ?_
  refine j_sld (j := i + 2) C X hb hbs dL_law_250 dL_law_251 dL_law_252 dL_law_253 dL_law_254 rfl (by omega) (by omega) (by omega) ?_
  refine j_sld (j := i + 3) C X hb hbs dL_law_255 dL_law_256 dL_law_257 dL_law_258 dL_law_259 rfl (by omega) (by omega) (by omega) ?_
  obtain ⟨fs2, hf2⟩ := Hm1.ob0
  refine j_RV C (r_point Hm1 (x32r (xs (i + 1))) (x32r (xs (i + 2))) (x32r (xs (i + 3)))) dL_law_260 KX5_point LL_32 IX5_point VX5_point (by decide) rfl hf2 rfl rfl rfl (Nat.le_of_ble_eq_true rfl) ?_
  intro r2 h2 hP2 _
  obtain ⟨rfl, Hm2, S2⟩ := hP2
  have Hw2 := Hw1.hi S2
  dsimp only [Option.toList, List.cons_append, List.nil_append]
  refine j_same C dL_law_263 (tgt := 767) (by decide) ?_
  exact k _ _ _ _ Hw2 Hm2
theorem lc_hull (C : ax_C p R s m args meth c b D dA 4 0 code RL 10) (X : va_X bs N xs s s.heap) (hb : s.heap.size = b) (hbs : bs < s.heap.size) (hN : N ≤ 2560) (hi : i + 5 ≤ N) (Hw : wd h B K km) (Hm : mw h 169 B K km) (k : ∀ (B2 K2 : Nat → List Pt3) (km2 : Nat) (h2 : ax_H), wd h2 B2 K2 km2 → mw h2 169 B2 K2 km2 → lw_J p l e R s m args below meth c b D dA 4 0 z0 Q bs 767 [none, some (rv 0), some (rv 169), some (iv (i : Int))] [] h2) : lw_J p l e R s m args below meth c b D dA 4 0 z0 Q bs 268 [none, some (rv 0), some (rv 169), some (iv (i : Int))] [] h := by
  refine j_aload_n C dL_law_268 rfl ?_
  refine j_sld (j := i + 1) C X hb hbs dL_law_269 dL_law_270 dL_law_271 dL_law_272 dL_law_273 rfl (by omega) (by omega) (by omega) ?_
  refine j_sld (j := i + 2) C X hb hbs dL_law_274 dL_law_275 dL_law_276 dL_law_277 dL_law_278 rfl (by omega) (by omega) (by omega) ?_
  obtain ⟨fs1, hf1⟩ := Hw.ob0
  refine j_RV C (t_hull Hw (x32r (xs (i + 1))) (x32r (xs (i + 2)))) dL_law_279 KX4_hull LL_33 IX4_hull VX4_hull (by decide) rfl hf1 rfl rfl rfl (Nat.le_of_ble_eq_true rfl) ?_
  intro r1 h1 hP1 _
  obtain ⟨rfl, Hw1, S1⟩ := hP1
  have Hm1 := Hm.lo S1
  dsimp only [Option.toList, List.cons_append, List.nil_append]
  refine j_aload_n C dL_law_282 rfl ?_
  refine j_sld (j := i + 1) C X hb hbs dL_law_283 dL_law_284 dL_law_285 dL_law_286 dL_law_287 rfl (by omega) (by omega) (by omega) ?_
  refine j_sld (j := i + 2) C X hb hbs dL_law_288 dL_law_289 dL_law_290 dL_law_291 dL_law_292 rfl (by omega) (by omega) (by omega) ?_
  obtain ⟨fs2, hf2⟩ := Hm1.ob0
  refine j_RV C (r_hull Hm1 (x32r (xs (i + 1))) (x32r (xs (i + 2)))) dL_law_293 KX5_hull LL_36 IX5_hull VX5_hull (by decide) rfl hf2 rfl rfl rfl (Nat.le_of_ble_eq_true rfl) ?_
  intro r2 h2 hP2 _
  obtain ⟨rfl, Hm2, S2⟩ := hP2
  have Hw2 := Hw1.hi S2
  dsimp only [Option.toList, List.cons_append, List.nil_append]
  refine j_same C dL_law_296 (tgt := 767) (by decide) ?_
  exact k _ _ _ _ Hw2 Hm2
theorem lc_corner (C : ax_C p R s m args meth c b D dA 4 0 code RL 10) (X : va_X bs N xs s s.heap) (hb : s.heap.size = b) (hbs : bs < s.heap.size) (hN : N ≤ 2560) (hi : i + 5 ≤ N) (Hw : wd h B K km) (Hm : mw h 169 B K km) (k : ∀ (B2 K2 : Nat → List Pt3) (km2 : Nat) (h2 : ax_H), wd h2 B2 K2 km2 → mw h2 169 B2 K2 km2 → lw_J p l e R s m args below meth c b D dA 4 0 z0 Q bs 767 [none, some (rv 0), some (rv 169), some (iv (i : Int))] [] h2) : lw_J p l e R s m args below meth c b D dA 4 0 z0 Q bs 301 [none, some (rv 0), some (rv 169), some (iv (i : Int))] [] h := by
  refine j_aload_n C dL_law_301 rfl ?_
  refine j_sld (j := i + 1) C X hb hbs dL_law_302 dL_law_303 dL_law_304 dL_law_305 dL_law_306 rfl (by omega) (by omega) (by omega) ?_
  refine j_sld (j := i + 2) C X hb hbs dL_law_307 dL_law_308 dL_law_309 dL_law_310 dL_law_311 rfl (by omega) (by omega) (by omega) ?_
  obtain ⟨fs1, hf1⟩ := Hw.ob0
  refine j_RV C (t_corner Hw (x32r (xs (i + 1))) (x32r (xs (i + 2)))) dL_law_312 KX4_corner LL_37 IX4_corner VX4_corner (by decide) rfl hf1 rfl rfl rfl (Nat.le_of_ble_eq_true rfl) ?_
  intro r1 h1 hP1 _
  obtain ⟨rfl, Hw1, S1⟩ := hP1
  have Hm1 := Hm.lo S1
  dsimp only [Option.toList, List.cons_append, List.nil_append]
  refine j_aload_n C dL_law_315 rfl ?_
  refine j_sld (j := i + 1) C X hb hbs dL_law_316 dL_law_317 dL_law_318 dL_law_319 dL_law_320 rfl (by omega) (by omega) (by omega) ?_
  refine j_sld (j := i + 2) C X hb hbs dL_law_321 dL_law_322 dL_law_323 dL_law_324 dL_law_325 rfl (by omega) (by omega) (by omega) ?_
  obtain ⟨fs2, hf2⟩ := Hm1.ob0
  refine j_RV C (r_corner Hm1 (x32r (xs (i + 1))) (x32r (xs (i + 2)))) dL_law_326 KX5_corner LL_40 IX5_corner VX5_corner (by decide) rfl hf2 rfl rfl rfl (Nat.le_of_ble_eq_true rfl) ?_
  intro r2 h2 hP2 _
  obtain ⟨rfl, Hm2, S2⟩ := hP2
  have Hw2 := Hw1.hi S2
  dsimp only [Option.toList, List.cons_append, List.nil_append]
  refine j_same C dL_law_329 (tgt := 767) (by decide) ?_
  exact k _ _ _ _ Hw2 Hm2
theorem lc_sum (C : ax_C p R s m args meth c b D dA 4 0 code RL 10) (X : va_X bs N xs s s.heap) (hb : s.heap.size = b) (hbs : bs < s.heap.size) (hN : N ≤ 2560) (hi : i + 5 ≤ N) (Hw : wd h B K km) (Hm : mw h 169 B K km) (k : ∀ (B2 K2 : Nat → List Pt3) (km2 : Nat) (h2 : ax_H), wd h2 B2 K2 km2 → mw h2 169 B2 K2 km2 → lw_J p l e R s m args below meth c b D dA 4 0 z0 Q bs 767 [none, some (rv 0), some (rv 169), some (iv (i : Int))] [] h2) : lw_J p l e R s m args below meth c b D dA 4 0 z0 Q bs 334 [none, some (rv 0), some (rv 169), some (iv (i : Int))] [] h := by
  refine j_aload_n C dL_law_334 rfl ?_
  refine j_sld (j := i + 1) C X hb hbs dL_law_335 dL_law_336 dL_law_337 dL_law_338 dL_law_339 rfl (by omega) (by omega) (by omega) ?_
  refine j_sld (j := i + 2) C X hb hbs dL_law_340 dL_law_341 dL_law_342 dL_law_343 dL_law_344 rfl (by omega) (by omega) (by omega) ?_
  refine j_sld (j := i + 3) C X hb hbs dL_law_345 dL_law_346 dL_law_347 dL_law_348 dL_law_349 rfl (by omega) (by omega) (by omega) ?_
  obtain ⟨fs1, hf1⟩ := Hw.ob0
  refine j_RV C (t_sum Hw (x32r (xs (i + 1))) (x32r (xs (i + 2))) (x32r (xs (i + 3)))) dL_law_350 KX4_sum LL_41 IX4_sum VX4_sum (by decide) rfl hf1 rfl rfl rfl (Nat.le_of_ble_eq_true rfl) ?_
  intro r1 h1 hP1 _
  obtain ⟨rfl, Hw1, S1⟩ := hP1
  have Hm1 := Hm.lo S1
  dsimp only [Option.toList, List.cons_append, List.nil_append]
  refine j_aload_n C dL_law_353 rfl ?_
  refine j_sld (j := i + 1) C X hb hbs dL_law_354 dL_law_355 dL_law_356 dL_law_357 dL_law_358 rfl (by omega) (by omega) (by omega) ?_
  refine j_sld (j := i + 2) C X hb hbs dL_law_359 dL_law_360 dL_law_361 dL_law_362 dL_law_363 rfl (by omega) (by omega) (by omega) ?_
  refine j_sld (j := i + 3) C X hb hbs dL_law_364 dL_law_365 dL_law_366 dL_law_367 dL_law_368 rfl (by omega) (by omega) (by omega) ?_
  obtain ⟨fs2, hf2⟩ := Hm1.ob0
  refine j_RV C (r_sum Hm1 (x32r (xs (i + 1))) (x32r (xs (i + 2))) (x32r (xs (i + 3)))) dL_law_369 KX5_sum LL_44 IX5_sum VX5_sum (by decide) rfl hf2 rfl rfl rfl (Nat.le_of_ble_eq_true rfl) ?_
  intro r2 h2 hP2 _
  obtain ⟨rfl, Hm2, S2⟩ := hP2
  have Hw2 := Hw1.hi S2
  dsimp only [Option.toList, List.cons_append, List.nil_append]
  refine j_same C dL_law_372 (tgt := 767) (by decide) ?_
  exact k _ _ _ _ Hw2 Hm2
theorem lc_sumCorner (C : ax_C p R s m args meth c b D dA 4 0 code RL 10) (X : va_X bs N xs s s.heap) (hb : s.heap.size = b) (hbs : bs < s.heap.size) (hN : N ≤ 2560) (hi : i + 5 ≤ N) (Hw : wd h B K km) (Hm : mw h 169 B K km) (k : ∀ (B2 K2 : Nat → List Pt3) (km2 : Nat) (h2 : ax_H), wd h2 B2 K2 km2 → mw h2 169 B2 K2 km2 → lw_J p l e R s m args below meth c b D dA 4 0 z0 Q bs 767 [none, some (rv 0), some (rv 169), some (iv (i : Int))] [] h2) : lw_J p l e R s m args below meth c b D dA 4 0 z0 Q bs 377 [none, some (rv 0), some (rv 169), some (iv (i : Int))] [] h := by
  refine j_aload_n C dL_law_377 rfl ?_
  refine j_sld (j := i + 1) C X hb hbs dL_law_378 dL_law_379 dL_law_380 dL_law_381 dL_law_382 rfl (by omega) (by omega) (by omega) ?_
  refine j_sld (j := i + 2) C X hb hbs dL_law_383 dL_law_384 dL_law_385 dL_law_386 dL_law_387 rfl (by omega) (by omega) (by omega) ?_
  refine j_sld (j := i + 3) C X hb hbs dL_law_388 dL_law_389 dL_law_390 dL_law_391 dL_law_392 rfl (by omega) (by omega) (by omega) ?_
  refine j_sld (j := i + 4) C X hb hbs dL_law_393 dL_law_394 dL_law_395 dL_law_396 dL_law_397 rfl (by omega) (by omega) (by omega) ?_
  obtain ⟨fs1, hf1⟩ := Hw.ob0
  refine j_RV C (t_sumCorner Hw (x32r (xs (i + 1))) (x32r (xs (i + 2))) (x32r (xs (i + 3))) (x32r (xs (i + 4)))) dL_law_398 KX4_sumCorner LL_45 IX4_sumCorner VX4_sumCorner (by decide) rfl hf1 rfl rfl rfl (Nat.le_of_ble_eq_true rfl) ?_
  intro r1 h1 hP1 _
  obtain ⟨rfl, Hw1, S1⟩ := hP1
  have Hm1 := Hm.lo S1
  dsimp only [Option.toList, List.cons_append, List.nil_append]
  refine j_aload_n C dL_law_401 rfl ?_
  refine j_sld (j := i + 1) C X hb hbs dL_law_402 dL_law_403 dL_law_404 dL_law_405 dL_law_406 rfl (by omega) (by omega) (by omega) ?_
  refine j_sld (j := i + 2) C X hb hbs dL_law_407 dL_law_408 dL_law_409 dL_law_410 dL_law_411 rfl (by omega) (by omega) (by omega) ?_
  refine j_sld (j := i + 3) C X hb hbs dL_law_412 dL_law_413 dL_law_414 dL_law_415 dL_law_416 rfl (by omega) (by omega) (by omega) ?_
  refine j_sld (j := i + 4) C X hb hbs dL_law_417 dL_law_418 dL_law_419 dL_law_420 dL_law_421 rfl (by omega) (by omega) (by omega) ?_
  obtain ⟨fs2, hf2⟩ := Hm1.ob0
  refine j_RV C (r_sumCorner Hm1 (x32r (xs (i + 1))) (x32r (xs (i + 2))) (x32r (xs (i + 3))) (x32r (xs (i + 4)))) dL_law_422 KX5_sumCorner LL_48 IX5_sumCorner VX5_sumCorner (by decide) rfl hf2 rfl rfl rfl (Nat.le_of_ble_eq_true rfl) ?_
  intro r2 h2 hP2 _
  obtain ⟨rfl, Hm2, S2⟩ := hP2
  have Hw2 := Hw1.hi S2
  dsimp only [Option.toList, List.cons_append, List.nil_append]
  refine j_same C dL_law_425 (tgt := 767) (by decide) ?_
  exact k _ _ _ _ Hw2 Hm2
theorem lc_cells (C : ax_C p R s m args meth c b D dA 4 0 code RL 10) (X : va_X bs N xs s s.heap) (hb : s.heap.size = b) (hbs : bs < s.heap.size) (hN : N ≤ 2560) (hi : i + 5 ≤ N) (Hw : wd h B K km) (Hm : mw h 169 B K km) (k : ∀ (B2 K2 : Nat → List Pt3) (km2 : Nat) (h2 : ax_H), wd h2 B2 K2 km2 → mw h2 169 B2 K2 km2 → lw_J p l e R s m args below meth c b D dA 4 0 z0 Q bs 767 [none, some (rv 0), some (rv 169), some (iv (i : Int))] [] h2) : lw_J p l e R s m args below meth c b D dA 4 0 z0 Q bs 430 [none, some (rv 0), some (rv 169), some (iv (i : Int))] [] h := by
  refine j_aload_n C dL_law_430 rfl ?_
  refine j_sld (j := i + 1) C X hb hbs dL_law_431 dL_law_432 dL_law_433 dL_law_434 dL_law_435 rfl (by omega) (by omega) (by omega) ?_
  refine j_sld (j := i + 2) C X hb hbs dL_law_436 dL_law_437 dL_law_438 dL_law_439 dL_law_440 rfl (by omega) (by omega) (by omega) ?_
  refine j_sld (j := i + 3) C X hb hbs dL_law_441 dL_law_442 dL_law_443 dL_law_444 dL_law_445 rfl (by omega) (by omega) (by omega) ?_
  obtain ⟨fs1, hf1⟩ := Hw.ob0
  refine j_RV C (t_cells Hw (x32r (xs (i + 1))) (x32r (xs (i + 2))) (x32r (xs (i + 3)))) dL_law_446 KX4_cells LL_49 IX4_cells VX4_cells (by decide) rfl hf1 rfl rfl rfl (Nat.le_of_ble_eq_true rfl) ?_
  intro r1 h1 hP1 _
  obtain ⟨rfl, Hw1, S1⟩ := hP1
  have Hm1 := Hm.lo S1
  dsimp only [Option.toList, List.cons_append, List.nil_append]
  refine j_aload_n C dL_law_449 rfl ?_
  refine j_sld (j := i + 1) C X hb hbs dL_law_450 dL_law_451 dL_law_452 dL_law_453 dL_law_454 rfl (by omega) (by omega) (by omega) ?_
  refine j_sld (j := i + 2) C X hb hbs dL_law_455 dL_law_456 dL_law_457 dL_law_458 dL_law_459 rfl (by omega) (by omega) (by omega) ?_
  refine j_sld (j := i + 3) C X hb hbs dL_law_460 dL_law_461 dL_law_462 dL_law_463 dL_law_464 rfl (by omega) (by omega) (by omega) ?_
  obtain ⟨fs2, hf2⟩ := Hm1.ob0
  refine j_RV C (r_cells Hm1 (x32r (xs (i + 1))) (x32r (xs (i + 2))) (x32r (xs (i + 3)))) dL_law_465 KX5_cells LL_52 IX5_cells VX5_cells (by decide) rfl hf2 rfl rfl rfl (Nat.le_of_ble_eq_true rfl) ?_
  intro r2 h2 hP2 _
  obtain ⟨rfl, Hm2, S2⟩ := hP2
  have Hw2 := Hw1.hi S2
  dsimp only [Option.toList, List.cons_append, List.nil_append]
  refine j_same C dL_law_468 (tgt := 767) (by decide) ?_
  exact k _ _ _ _ Hw2 Hm2
theorem lc_cell (C : ax_C p R s m args meth c b D dA 4 0 code RL 10) (X : va_X bs N xs s s.heap) (hb : s.heap.size = b) (hbs : bs < s.heap.size) (hN : N ≤ 2560) (hi : i + 5 ≤ N) (Hw : wd h B K km) (Hm : mw h 169 B K km) (k : ∀ (B2 K2 : Nat → List Pt3) (km2 : Nat) (h2 : ax_H), wd h2 B2 K2 km2 → mw h2 169 B2 K2 km2 → lw_J p l e R s m args below meth c b D dA 4 0 z0 Q bs 767 [none, some (rv 0), some (rv 169), some (iv (i : Int))] [] h2) : lw_J p l e R s m args below meth c b D dA 4 0 z0 Q bs 473 [none, some (rv 0), some (rv 169), some (iv (i : Int))] [] h := by
  refine j_aload_n C dL_law_473 rfl ?_
  refine j_sld (j := i + 1) C X hb hbs dL_law_474 dL_law_475 dL_law_476 dL_law_477 dL_law_478 rfl (by omega) (by omega) (by omega) ?_
  refine j_sld (j := i + 2) C X hb hbs dL_law_479 dL_law_480 dL_law_481 dL_law_482 dL_law_483 rfl (by omega) (by omega) (by omega) ?_
  refine j_sld (j := i + 3) C X hb hbs dL_law_484 dL_law_485 dL_law_486 dL_law_487 dL_law_488 rfl (by omega) (by omega) (by omega) ?_
  refine j_sld (j := i + 4) C X hb hbs dL_law_489 dL_law_490 dL_law_491 dL_law_492 dL_law_493 rfl (by omega) (by omega) (by omega) ?_
  obtain ⟨fs1, hf1⟩ := Hw.ob0
  refine j_RV C (t_cell Hw (x32r (xs (i + 1))) (x32r (xs (i + 2))) (x32r (xs (i + 3))) (x32r (xs (i + 4)))) dL_law_494 KX4_cell LL_53 IX4_cell VX4_cell (by decide) rfl hf1 rfl rfl rfl (Nat.le_of_ble_eq_true rfl) ?_
  intro r1 h1 hP1 _
  obtain ⟨rfl, Hw1, S1⟩ := hP1
  have Hm1 := Hm.lo S1
  dsimp only [Option.toList, List.cons_append, List.nil_append]
  refine j_aload_n C dL_law_497 rfl ?_
  refine j_sld (j := i + 1) C X hb hbs dL_law_498 dL_law_499 dL_law_500 dL_law_501 dL_law_502 rfl (by omega) (by omega) (by omega) ?_
  refine j_sld (j := i + 2) C X hb hbs dL_law_503 dL_law_504 dL_law_505 dL_law_506 dL_law_507 rfl (by omega) (by omega) (by omega) ?_
  refine j_sld (j := i + 3) C X hb hbs dL_law_508 dL_law_509 dL_law_510 dL_law_511 dL_law_512 rfl (by omega) (by omega) (by omega) ?_
  refine j_sld (j := i + 4) C X hb hbs dL_law_513 dL_law_514 dL_law_515 dL_law_516 dL_law_517 rfl (by omega) (by omega) (by omega) ?_
  obtain ⟨fs2, hf2⟩ := Hm1.ob0
  refine j_RV C (r_cell Hm1 (x32r (xs (i + 1))) (x32r (xs (i + 2))) (x32r (xs (i + 3))) (x32r (xs (i + 4)))) dL_law_518 KX5_cell LL_56 IX5_cell VX5_cell (by decide) rfl hf2 rfl rfl rfl (Nat.le_of_ble_eq_true rfl) ?_
  intro r2 h2 hP2 _
  obtain ⟨rfl, Hm2, S2⟩ := hP2
  have Hw2 := Hw1.hi S2
  dsimp only [Option.toList, List.cons_append, List.nil_append]
  refine j_same C dL_law_521 (tgt := 767) (by decide) ?_
  exact k _ _ _ _ Hw2 Hm2
theorem lc_slope (C : ax_C p R s m args meth c b D dA 4 0 code RL 10) (X : va_X bs N xs s s.heap) (hb : s.heap.size = b) (hbs : bs < s.heap.size) (hN : N ≤ 2560) (hi : i + 5 ≤ N) (Hw : wd h B K km) (Hm : mw h 169 B K km) (k : ∀ (B2 K2 : Nat → List Pt3) (km2 : Nat) (h2 : ax_H), wd h2 B2 K2 km2 → mw h2 169 B2 K2 km2 → lw_J p l e R s m args below meth c b D dA 4 0 z0 Q bs 767 [none, some (rv 0), some (rv 169), some (iv (i : Int))] [] h2) : lw_J p l e R s m args below meth c b D dA 4 0 z0 Q bs 526 [none, some (rv 0), some (rv 169), some (iv (i : Int))] [] h := by
  refine j_aload_n C dL_law_526 rfl ?_
  refine j_sld (j := i + 1) C X hb hbs dL_law_527 dL_law_528 dL_law_529 dL_law_530 dL_law_531 rfl (by omega) (by omega) (by omega) ?_
  refine j_sld (j := i + 2) C X hb hbs dL_law_532 dL_law_533 dL_law_534 dL_law_535 dL_law_536 rfl (by omega) (by omega) (by omega) ?_
  refine j_sld (j := i + 3) C X hb hbs dL_law_537 dL_law_538 dL_law_539 dL_law_540 dL_law_541 rfl (by omega) (by omega) (by omega) ?_
  refine j_sld (j := i + 4) C X hb hbs dL_law_542 dL_law_543 dL_law_544 dL_law_545 dL_law_546 rfl (by omega) (by omega) (by omega) ?_
  obtain ⟨fs1, hf1⟩ := Hw.ob0
  refine j_RV C (t_slope Hw (x32r (xs (i + 1))) (x32r (xs (i + 2))) (x32r (xs (i + 3))) (x32r (xs (i + 4)))) dL_law_547 KX4_slope LL_57 IX4_slope VX4_slope (by decide) rfl hf1 rfl rfl rfl (Nat.le_of_ble_eq_true rfl) ?_
  intro r1 h1 hP1 _
  obtain ⟨rfl, Hw1, S1⟩ := hP1
  have Hm1 := Hm.lo S1
  dsimp only [Option.toList, List.cons_append, List.nil_append]
  refine j_aload_n C dL_law_550 rfl ?_
  refine j_sld (j := i + 1) C X hb hbs dL_law_551 dL_law_552 dL_law_553 dL_law_554 dL_law_555 rfl (by omega) (by omega) (by omega) ?_
  refine j_sld (j := i + 2) C X hb hbs dL_law_556 dL_law_557 dL_law_558 dL_law_559 dL_law_560 rfl (by omega) (by omega) (by omega) ?_
  refine j_sld (j := i + 3) C X hb hbs dL_law_561 dL_law_562 dL_law_563 dL_law_564 dL_law_565 rfl (by omega) (by omega) (by omega) ?_
  refine j_sld (j := i + 4) C X hb hbs dL_law_566 dL_law_567 dL_law_568 dL_law_569 dL_law_570 rfl (by omega) (by omega) (by omega) ?_
  obtain ⟨fs2, hf2⟩ := Hm1.ob0
  refine j_RV C (r_slope Hm1 (x32r (xs (i + 1))) (x32r (xs (i + 2))) (x32r (xs (i + 3))) (x32r (xs (i + 4)))) dL_law_571 KX5_slope LL_60 IX5_slope VX5_slope (by decide) rfl hf2 rfl rfl rfl (Nat.le_of_ble_eq_true rfl) ?_
  intro r2 h2 hP2 _
  obtain ⟨rfl, Hm2, S2⟩ := hP2
  have Hw2 := Hw1.hi S2
  dsimp only [Option.toList, List.cons_append, List.nil_append]
  refine j_same C dL_law_574 (tgt := 767) (by decide) ?_
  exact k _ _ _ _ Hw2 Hm2
theorem lc_low (C : ax_C p R s m args meth c b D dA 4 0 code RL 10) (X : va_X bs N xs s s.heap) (hb : s.heap.size = b) (hbs : bs < s.heap.size) (hN : N ≤ 2560) (hi : i + 5 ≤ N) (Hw : wd h B K km) (Hm : mw h 169 B K km) (k : ∀ (B2 K2 : Nat → List Pt3) (km2 : Nat) (h2 : ax_H), wd h2 B2 K2 km2 → mw h2 169 B2 K2 km2 → lw_J p l e R s m args below meth c b D dA 4 0 z0 Q bs 767 [none, some (rv 0), some (rv 169), some (iv (i : Int))] [] h2) : lw_J p l e R s m args below meth c b D dA 4 0 z0 Q bs 579 [none, some (rv 0), some (rv 169), some (iv (i : Int))] [] h := by
  refine j_aload_n C dL_law_579 rfl ?_
  refine j_sld (j := i + 1) C X hb hbs dL_law_580 dL_law_581 dL_law_582 dL_law_583 dL_law_584 rfl (by omega) (by omega) (by omega) ?_
  refine j_sld (j := i + 2) C X hb hbs dL_law_585 dL_law_586 dL_law_587 dL_law_588 dL_law_589 rfl (by omega) (by omega) (by omega) ?_
  refine j_sld (j := i + 3) C X hb hbs dL_law_590 dL_law_591 dL_law_592 dL_law_593 dL_law_594 rfl (by omega) (by omega) (by omega) ?_
  obtain ⟨fs1, hf1⟩ := Hw.ob0
  refine j_RV C (t_low Hw (x32r (xs (i + 1))) (x32r (xs (i + 2))) (x32r (xs (i + 3)))) dL_law_595 KX4_low LL_61 IX4_low VX4_low (by decide) rfl hf1 rfl rfl rfl (Nat.le_of_ble_eq_true rfl) ?_
  intro r1 h1 hP1 _
  obtain ⟨rfl, Hw1, S1⟩ := hP1
  have Hm1 := Hm.lo S1
  dsimp only [Option.toList, List.cons_append, List.nil_append]
  refine j_aload_n C dL_law_598 rfl ?_
  refine j_sld (j := i + 1) C X hb hbs dL_law_599 dL_law_600 dL_law_601 dL_law_602 dL_law_603 rfl (by omega) (by omega) (by omega) ?_
  refine j_sld (j := i + 2) C X hb hbs dL_law_604 dL_law_605 dL_law_606 dL_law_607 dL_law_608 rfl (by omega) (by omega) (by omega) ?_
  refine j_sld (j := i + 3) C X hb hbs dL_law_609 dL_law_610 dL_law_611 dL_law_612 dL_law_613 rfl (by omega) (by omega) (by omega) ?_
  obtain ⟨fs2, hf2⟩ := Hm1.ob0
  refine j_RV C (r_low Hm1 (x32r (xs (i + 1))) (x32r (xs (i + 2))) (x32r (xs (i + 3)))) dL_law_614 KX5_low LL_64 IX5_low VX5_low (by decide) rfl hf2 rfl rfl rfl (Nat.le_of_ble_eq_true rfl) ?_
  intro r2 h2 hP2 _
  obtain ⟨rfl, Hm2, S2⟩ := hP2
  have Hw2 := Hw1.hi S2
  dsimp only [Option.toList, List.cons_append, List.nil_append]
  refine j_same C dL_law_617 (tgt := 767) (by decide) ?_
  exact k _ _ _ _ Hw2 Hm2
theorem lc_fan (C : ax_C p R s m args meth c b D dA 4 0 code RL 10) (X : va_X bs N xs s s.heap) (hb : s.heap.size = b) (hbs : bs < s.heap.size) (hN : N ≤ 2560) (hi : i + 5 ≤ N) (Hw : wd h B K km) (Hm : mw h 169 B K km) (k : ∀ (B2 K2 : Nat → List Pt3) (km2 : Nat) (h2 : ax_H), wd h2 B2 K2 km2 → mw h2 169 B2 K2 km2 → lw_J p l e R s m args below meth c b D dA 4 0 z0 Q bs 767 [none, some (rv 0), some (rv 169), some (iv (i : Int))] [] h2) : lw_J p l e R s m args below meth c b D dA 4 0 z0 Q bs 622 [none, some (rv 0), some (rv 169), some (iv (i : Int))] [] h := by
  refine j_aload_n C dL_law_622 rfl ?_
  refine j_sld (j := i + 1) C X hb hbs dL_law_623 dL_law_624 dL_law_625 dL_law_626 dL_law_627 rfl (by omega) (by omega) (by omega) ?_
  refine j_sld (j := i + 2) C X hb hbs dL_law_628 dL_law_629 dL_law_630 dL_law_631 dL_law_632 rfl (by omega) (by omega) (by omega) ?_
  obtain ⟨fs1, hf1⟩ := Hw.ob0
  refine j_RV C (t_fan Hw (x32r (xs (i + 1))) (x32r (xs (i + 2)))) dL_law_633 KX4_fan LL_65 IX4_fan VX4_fan (by decide) rfl hf1 rfl rfl rfl (Nat.le_of_ble_eq_true rfl) ?_
  intro r1 h1 hP1 _
  obtain ⟨rfl, Hw1, S1⟩ := hP1
  have Hm1 := Hm.lo S1
  dsimp only [Option.toList, List.cons_append, List.nil_append]
  refine j_aload_n C dL_law_636 rfl ?_
  refine j_sld (j := i + 1) C X hb hbs dL_law_637 dL_law_638 dL_law_639 dL_law_640 dL_law_641 rfl (by omega) (by omega) (by omega) ?_
  refine j_sld (j := i + 2) C X hb hbs dL_law_642 dL_law_643 dL_law_644 dL_law_645 dL_law_646 rfl (by omega) (by omega) (by omega) ?_
  obtain ⟨fs2, hf2⟩ := Hm1.ob0
  refine j_RV C (r_fan Hm1 (x32r (xs (i + 1))) (x32r (xs (i + 2)))) dL_law_647 KX5_fan LL_68 IX5_fan VX5_fan (by decide) rfl hf2 rfl rfl rfl (Nat.le_of_ble_eq_true rfl) ?_
  intro r2 h2 hP2 _
  obtain ⟨rfl, Hm2, S2⟩ := hP2
  have Hw2 := Hw1.hi S2
  dsimp only [Option.toList, List.cons_append, List.nil_append]
  refine j_same C dL_law_650 (tgt := 767) (by decide) ?_
  exact k _ _ _ _ Hw2 Hm2
theorem lc_roots (C : ax_C p R s m args meth c b D dA 4 0 code RL 10) (X : va_X bs N xs s s.heap) (hb : s.heap.size = b) (hbs : bs < s.heap.size) (hN : N ≤ 2560) (hi : i + 5 ≤ N) (Hw : wd h B K km) (Hm : mw h 169 B K km) (k : ∀ (B2 K2 : Nat → List Pt3) (km2 : Nat) (h2 : ax_H), wd h2 B2 K2 km2 → mw h2 169 B2 K2 km2 → lw_J p l e R s m args below meth c b D dA 4 0 z0 Q bs 767 [none, some (rv 0), some (rv 169), some (iv (i : Int))] [] h2) : lw_J p l e R s m args below meth c b D dA 4 0 z0 Q bs 655 [none, some (rv 0), some (rv 169), some (iv (i : Int))] [] h := by
  refine j_aload_n C dL_law_655 rfl ?_
  refine j_sld (j := i + 1) C X hb hbs dL_law_656 dL_law_657 dL_law_658 dL_law_659 dL_law_660 rfl (by omega) (by omega) (by omega) ?_
  refine j_sld (j := i + 2) C X hb hbs dL_law_661 dL_law_662 dL_law_663 dL_law_664 dL_law_665 rfl (by omega) (by omega) (by omega) ?_
  refine j_sld (j := i + 3) C X hb hbs dL_law_666 dL_law_667 dL_law_668 dL_law_669 dL_law_670 rfl (by omega) (by omega) (by omega) ?_
  obtain ⟨fs1, hf1⟩ := Hw.ob0
  refine j_RV C (t_roots Hw (x32r (xs (i + 1))) (x32r (xs (i + 2))) (x32r (xs (i + 3)))) dL_law_671 KX4_roots LL_69 IX4_roots VX4_roots (by decide) rfl hf1 rfl rfl rfl (Nat.le_of_ble_eq_true rfl) ?_
  intro r1 h1 hP1 _
  obtain ⟨rfl, Hw1, S1⟩ := hP1
  have Hm1 := Hm.lo S1
  dsimp only [Option.toList, List.cons_append, List.nil_append]
  refine j_aload_n C dL_law_674 rfl ?_
  refine j_sld (j := i + 1) C X hb hbs dL_law_675 dL_law_676 dL_law_677 dL_law_678 dL_law_679 rfl (by omega) (by omega) (by omega) ?_
  refine j_sld (j := i + 2) C X hb hbs dL_law_680 dL_law_681 dL_law_682 dL_law_683 dL_law_684 rfl (by omega) (by omega) (by omega) ?_
  refine j_sld (j := i + 3) C X hb hbs dL_law_685 dL_law_686 dL_law_687 dL_law_688 dL_law_689 rfl (by omega) (by omega) (by omega) ?_
  obtain ⟨fs2, hf2⟩ := Hm1.ob0
  refine j_RV C (r_roots Hm1 (x32r (xs (i + 1))) (x32r (xs (i + 2))) (x32r (xs (i + 3)))) dL_law_690 KX5_roots LL_72 IX5_roots VX5_roots (by decide) rfl hf2 rfl rfl rfl (Nat.le_of_ble_eq_true rfl) ?_
  intro r2 h2 hP2 _
  obtain ⟨rfl, Hm2, S2⟩ := hP2
  have Hw2 := Hw1.hi S2
  dsimp only [Option.toList, List.cons_append, List.nil_append]
  refine j_same C dL_law_693 (tgt := 767) (by decide) ?_
  exact k _ _ _ _ Hw2 Hm2
theorem lc_image (C : ax_C p R s m args meth c b D dA 4 0 code RL 10) (X : va_X bs N xs s s.heap) (hb : s.heap.size = b) (hbs : bs < s.heap.size) (hN : N ≤ 2560) (hi : i + 5 ≤ N) (Hw : wd h B K km) (Hm : mw h 169 B K km) (k : ∀ (B2 K2 : Nat → List Pt3) (km2 : Nat) (h2 : ax_H), wd h2 B2 K2 km2 → mw h2 169 B2 K2 km2 → lw_J p l e R s m args below meth c b D dA 4 0 z0 Q bs 767 [none, some (rv 0), some (rv 169), some (iv (i : Int))] [] h2) : lw_J p l e R s m args below meth c b D dA 4 0 z0 Q bs 698 [none, some (rv 0), some (rv 169), some (iv (i : Int))] [] h := by
  refine j_aload_n C dL_law_698 rfl ?_
  refine j_sld (j := i + 1) C X hb hbs dL_law_699 dL_law_700 dL_law_701 dL_law_702 dL_law_703 rfl (by omega) (by omega) (by omega) ?_
  obtain ⟨fs1, hf1⟩ := Hw.ob0
  refine j_RV C (t_image Hw (x32r (xs (i + 1)))) dL_law_704 KX4_image LL_73 IX4_image VX4_image (by decide) rfl hf1 rfl rfl rfl (Nat.le_of_ble_eq_true rfl) ?_
  intro r1 h1 hP1 _
  obtain ⟨rfl, Hw1, S1⟩ := hP1
  have Hm1 := Hm.lo S1
  dsimp only [Option.toList, List.cons_append, List.nil_append]
  refine j_aload_n C dL_law_707 rfl ?_
  refine j_sld (j := i + 1) C X hb hbs dL_law_708 dL_law_709 dL_law_710 dL_law_711 dL_law_712 rfl (by omega) (by omega) (by omega) ?_
  obtain ⟨fs2, hf2⟩ := Hm1.ob0
  refine j_RV C (r_image Hm1 (x32r (xs (i + 1)))) dL_law_713 KX5_image LL_76 IX5_image VX5_image (by decide) rfl hf2 rfl rfl rfl (Nat.le_of_ble_eq_true rfl) ?_
  intro r2 h2 hP2 _
  obtain ⟨rfl, Hm2, S2⟩ := hP2
  have Hw2 := Hw1.hi S2
  dsimp only [Option.toList, List.cons_append, List.nil_append]
  refine j_same C dL_law_716 (tgt := 767) (by decide) ?_
  exact k _ _ _ _ Hw2 Hm2
theorem lc_restore (C : ax_C p R s m args meth c b D dA 4 0 code RL 10) (X : va_X bs N xs s s.heap) (hb : s.heap.size = b) (hbs : bs < s.heap.size) (hN : N ≤ 2560) (hi : i + 5 ≤ N) (Hw : wd h B K km) (Hm : mw h 169 B K km) (k : ∀ (B2 K2 : Nat → List Pt3) (km2 : Nat) (h2 : ax_H), wd h2 B2 K2 km2 → mw h2 169 B2 K2 km2 → lw_J p l e R s m args below meth c b D dA 4 0 z0 Q bs 767 [none, some (rv 0), some (rv 169), some (iv (i : Int))] [] h2) : lw_J p l e R s m args below meth c b D dA 4 0 z0 Q bs 721 [none, some (rv 0), some (rv 169), some (iv (i : Int))] [] h := by
  refine j_aload_n C dL_law_721 rfl ?_
  refine j_sld (j := i + 1) C X hb hbs dL_law_722 dL_law_723 dL_law_724 dL_law_725 dL_law_726 rfl (by omega) (by omega) (by omega) ?_
  obtain ⟨fs1, hf1⟩ := Hw.ob0
  refine j_RV C (t_restore Hw (x32r (xs (i + 1)))) dL_law_727 KX4_restore LL_77 IX4_restore VX4_restore (by decide) rfl hf1 rfl rfl rfl (Nat.le_of_ble_eq_true rfl) ?_
  intro r1 h1 hP1 _
  obtain ⟨rfl, Hw1, S1⟩ := hP1
  have Hm1 := Hm.lo S1
  dsimp only [Option.toList, List.cons_append, List.nil_append]
  refine j_aload_n C dL_law_730 rfl ?_
  refine j_sld (j := i + 1) C X hb hbs dL_law_731 dL_law_732 dL_law_733 dL_law_734 dL_law_735 rfl (by omega) (by omega) (by omega) ?_
  obtain ⟨fs2, hf2⟩ := Hm1.ob0
  refine j_RV C (r_restore Hm1 (x32r (xs (i + 1)))) dL_law_736 KX5_restore LL_80 IX5_restore VX5_restore (by decide) rfl hf2 rfl rfl rfl (Nat.le_of_ble_eq_true rfl) ?_
  intro r2 h2 hP2 _
  obtain ⟨rfl, Hm2, S2⟩ := hP2
  have Hw2 := Hw1.hi S2
  dsimp only [Option.toList, List.cons_append, List.nil_append]
  refine j_same C dL_law_739 (tgt := 767) (by decide) ?_
  exact k _ _ _ _ Hw2 Hm2
theorem lc_count (C : ax_C p R s m args meth c b D dA 4 0 code RL 10) (X : va_X bs N xs s s.heap) (hb : s.heap.size = b) (hbs : bs < s.heap.size) (hN : N ≤ 2560) (hi : i + 5 ≤ N) (Hw : wd h B K km) (Hm : mw h 169 B K km) (k : ∀ (B2 K2 : Nat → List Pt3) (km2 : Nat) (h2 : ax_H), wd h2 B2 K2 km2 → mw h2 169 B2 K2 km2 → lw_J p l e R s m args below meth c b D dA 4 0 z0 Q bs 767 [none, some (rv 0), some (rv 169), some (iv (i : Int))] [] h2) : lw_J p l e R s m args below meth c b D dA 4 0 z0 Q bs 744 [none, some (rv 0), some (rv 169), some (iv (i : Int))] [] h := by
  refine j_aload_n C dL_law_744 rfl ?_
  refine j_sld (j := i + 1) C X hb hbs dL_law_745 dL_law_746 dL_law_747 dL_law_748 dL_law_749 rfl (by omega) (by omega) (by omega) ?_
  obtain ⟨fs1, hf1⟩ := Hw.ob0
  refine j_RV C (t_count Hw (x32r (xs (i + 1)))) dL_law_750 KX4_count LL_81 IX4_count VX4_count (by decide) rfl hf1 rfl rfl rfl (Nat.le_of_ble_eq_true rfl) ?_
  intro r1 h1 hP1 _
  obtain ⟨rfl, Hw1, S1⟩ := hP1
  have Hm1 := Hm.lo S1
  dsimp only [Option.toList, List.cons_append, List.nil_append]
  refine j_aload_n C dL_law_753 rfl ?_
  refine j_sld (j := i + 1) C X hb hbs dL_law_754 dL_law_755 dL_law_756 dL_law_757 dL_law_758 rfl (by omega) (by omega) (by omega) ?_
  obtain ⟨fs2, hf2⟩ := Hm1.ob0
  refine j_RV C (r_count Hm1 (x32r (xs (i + 1)))) dL_law_759 KX5_count LL_84 IX5_count VX5_count (by decide) rfl hf2 rfl rfl rfl (Nat.le_of_ble_eq_true rfl) ?_
  intro r2 h2 hP2 _
  obtain ⟨rfl, Hm2, S2⟩ := hP2
  have Hw2 := Hw1.hi S2
  dsimp only [Option.toList, List.cons_append, List.nil_append]
  refine j_same C dL_law_762 (tgt := 767) (by decide) ?_
  exact k _ _ _ _ Hw2 Hm2
end LAWC
