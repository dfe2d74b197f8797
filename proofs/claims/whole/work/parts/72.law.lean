/-! ===== the law, a case of the switch each ===== -/
abbrev RM0 : Room := { frames := 16, cells := 601024, slots := 7293034, locals := 626 }
section LAW
variable {p : Program} {l : Launch} {e : Env} {s : State} {m : MethodId} {below : List Frame} {meth : Method} {c : Code} {Q : State → Prop} {E : gE} {S0 x : St} {b L cs sl : Nat} {xs : Nat → Int32}
set_option maxRecDepth 100000 in
theorem law_0_setRoom (hlt : l.stackTraces = false) (h : gO p s m #[.ref b] c cL_law 7 RL wsL_law E S0) (hX : va_X b L xs s s.heap) (hbl : b < s.heap.size) (hbA : ¬ gA E S0 s b) (hL : L < 2 ^ 31) {i t : Nat} (hi : i + 4 ≤ L) (hx : LI x t cs sl) (ht : t < 512) (kk : ∀ (y : St) (cs' sl' : Nat), LI y (t + 1) cs' sl' → G p l e RM0 s m #[.ref b] below meth c Q E S0 7 cs' sl' y 1709 [(0, .ref b), (1, .ref (aD E)), (2, .ref (aM E)), (3, .ref (aO E)), (4, .int (nI i))] []) : G p l e RM0 s m #[.ref b] below meth c Q E S0 7 cs sl x 164 [(0, .ref b), (1, .ref (aD E)), (2, .ref (aM E)), (3, .ref (aO E)), (4, .int (nI i))] [] := by
  obtain ⟨k, r, mc, ms, rm, P1, P2, ⟨r1, r2, r3, r4⟩, ⟨b1, b2⟩, hCL, hCM, hF⟩ := op_setRoom hlt (xs (i + 1)) (xs (i + 2)) (xs (i + 3)) x t cs sl hx ht
  refine g_aload_n h 1 dL_law_164 rfl rfl ?_
  refine g_aload_n h 0 dL_law_165 rfl rfl ?_
  refine g_iload h 4 dL_law_166 rfl ?_
  refine g_iconst (v := nI 1) h dL_law_168 (by decide) ?_
  refine g_iaddN h dL_law_169 ?_
  refine g_sld h hX hbl hbA (by omega) hL dL_law_170 ?_
  refine g_aload_n h 0 dL_law_171 rfl rfl ?_
  refine g_iload h 4 dL_law_172 rfl ?_
  refine g_iconst (v := nI 2) h dL_law_174 (by decide) ?_
  refine g_iaddN h dL_law_175 ?_
  refine g_sld h hX hbl hbA (by omega) hL dL_law_176 ?_
  refine g_aload_n h 0 dL_law_177 rfl rfl ?_
  refine g_iload h 4 dL_law_178 rfl ?_
  refine g_iconst (v := nI 3) h dL_law_180 (by decide) ?_
  refine g_iaddN h dL_law_181 ?_
  refine g_sld h hX hbl hbA (by omega) hL dL_law_182 ?_
  refine g_aload_n h 3 dL_law_183 rfl rfl ?_
  refine g_callSW (As := [.ref (aD E), .int (xs (i + 1)), .int (xs (i + 2)), .int (xs (i + 3)), .ref (aO E)]) h 5 hCL rfl gL_law_L_setRoom rfl rfl rfl rfl (by decide +kernel) ⟨Nat.le_of_ble_eq_true rfl, Nat.le_of_ble_eq_true rfl⟩ dL_law_184 ⟨by show cs + mc ≤ 601024; omega, by show sl + ms ≤ 7293034; omega⟩ (Nat.le_of_ble_eq_true rfl) ?_
  rintro _ y1 ⟨rfl, h1⟩
  dsimp only [Option.toList, List.cons_append, List.nil_append]
  refine g_istore (lv' := [(0, _), (1, _), (2, _), (3, _), (4, _), (5, .int k)]) h [1, 2, 3, 4, 5, 0] dL_law_187 (by decide) rfl ?_
  refine g_aload_n h 2 dL_law_189 rfl rfl ?_
  refine g_aload_n h 0 dL_law_190 rfl rfl ?_
  refine g_iload h 4 dL_law_191 rfl ?_
  refine g_iconst (v := nI 1) h dL_law_193 (by decide) ?_
  refine g_iaddN h dL_law_194 ?_
  refine g_sld h hX hbl hbA (by omega) hL dL_law_195 ?_
  refine g_aload_n h 0 dL_law_196 rfl rfl ?_
  refine g_iload h 4 dL_law_197 rfl ?_
  refine g_iconst (v := nI 2) h dL_law_199 (by decide) ?_
  refine g_iaddN h dL_law_200 ?_
  refine g_sld h hX hbl hbA (by omega) hL dL_law_201 ?_
  refine g_aload_n h 0 dL_law_202 rfl rfl ?_
  refine g_iload h 4 dL_law_203 rfl ?_
  refine g_iconst (v := nI 3) h dL_law_205 (by decide) ?_
  refine g_iaddN h dL_law_206 ?_
  refine g_sld h hX hbl hbA (by omega) hL dL_law_207 ?_
  refine g_callV (As := [.int (xs (i + 1)), .int (xs (i + 2)), .int (xs (i + 3))]) (C := RX6) h 3 (hCM y1 h1) rfl gL_law_X6_setRoom rfl r1 r2 rfl (by decide +kernel) ⟨by show rm.frames + 1 ≤ 16; omega, by show 8 + (_ + 11) + rm.locals ≤ 626; omega⟩ (wat_M E _) rfl rfl dL_law_208 ⟨by show cs + mc + 0 ≤ 601024; omega, by show sl + ms + 0 ≤ 7293034; omega⟩ (Nat.le_of_ble_eq_true rfl) ?_
  rintro _ y2 ⟨rfl, h2⟩
  obtain ⟨hk, hO, hn⟩ := hF y2 h2
  dsimp only [Option.toList, List.cons_append, List.nil_append]
  refine g_istore (lv' := [(0, _), (1, _), (2, _), (3, _), (4, _), (5, .int k), (6, .int r)]) h [1, 2, 3, 4, 5, 6, 0] dL_law_211 (by decide) rfl ?_
  refine g_aload_n h 2 dL_law_213 rfl rfl ?_
  refine g_callV (As := []) (C := RX6) h 0 (c_X6_thrown l E y2) rfl gL_law_X6_thrown rfl rfl rfl rfl (by decide +kernel) ⟨Nat.le_of_ble_eq_true rfl, Nat.le_of_ble_eq_true rfl⟩ (wat_M E _) rfl rfl dL_law_214 ⟨by show cs + mc + 0 + 0 ≤ 601024; omega, by show sl + ms + 0 + 0 ≤ 7293034; omega⟩ (Nat.le_of_ble_eq_true rfl) ?_
  rintro _ _ ⟨rfl, hy⟩
  obtain rfl := hy.symm
  dsimp only [Option.toList, List.cons_append, List.nil_append]
  refine g_iload h 5 dL_law_217 rfl ?_
  refine g_icmp_eq h 224 dL_law_219 (by decide) (fun _ => ?_) (fun z => absurd hk z)
  refine g_iload h 5 dL_law_224 rfl ?_
  have J : G p l e RM0 s m #[.ref b] below meth c Q E S0 7 (cs + mc) (sl + ms) y2 248 [(0, .ref b), (1, .ref (aD E)), (2, .ref (aM E)), (3, .ref (aO E)), (4, .int (nI i)), (5, .int k), (6, .int r)] [] := by
    refine g_lv [0, 1, 2, 3, 4] rfl ?_
    refine g_goto h 1709 dL_law_248 (by decide) ?_
    exact kk _ _ _ hn
  refine g_if_ne h 248 dL_law_226 (by decide) (fun _ => J) (fun hk0 => ?_)
  refine g_aload_n h 3 dL_law_229 rfl rfl ?_
  refine g_iconst (v := nI 0) h dL_law_230 (by decide) ?_
  refine g_lald0 h dL_law_231 ?_
  refine g_iload h 6 dL_law_232 rfl ?_
  have hO2 := hO hk0
  dsimp only at hO2
  refine g_if_eq h 241 dL_law_234 (by decide) (fun z => ?_) (fun z => ?_)
  · rw [if_pos z] at hO2
    refine g_lconst (v := 0) h dL_law_241 (by decide) ?_
    refine g_lcmp h dL_law_242 ?_
    rw [hO2, cmp_s]
    exact g_if_eq h 248 dL_law_243 (by decide) (fun _ => J) (fun q => absurd rfl q)
  · rw [if_neg z] at hO2
    refine g_lconst (v := 1) h dL_law_237 (by decide) ?_
    refine g_goto h 242 dL_law_238 (by decide) ?_
    refine g_lcmp h dL_law_242 ?_
    rw [hO2, cmp_s]
    exact g_if_eq h 248 dL_law_243 (by decide) (fun _ => J) (fun q => absurd rfl q)
set_option maxRecDepth 100000 in
theorem law_1_read (hlt : l.stackTraces = false) (h : gO p s m #[.ref b] c cL_law 7 RL wsL_law E S0) (hX : va_X b L xs s s.heap) (hbl : b < s.heap.size) (hbA : ¬ gA E S0 s b) (hL : L < 2 ^ 31) {i t : Nat} (hi : i + 4 ≤ L) (hx : LI x t cs sl) (ht : t < 512) (kk : ∀ (y : St) (cs' sl' : Nat), LI y (t + 1) cs' sl' → G p l e RM0 s m #[.ref b] below meth c Q E S0 7 cs' sl' y 1709 [(0, .ref b), (1, .ref (aD E)), (2, .ref (aM E)), (3, .ref (aO E)), (4, .int (nI i))] []) : G p l e RM0 s m #[.ref b] below meth c Q E S0 7 cs sl x 251 [(0, .ref b), (1, .ref (aD E)), (2, .ref (aM E)), (3, .ref (aO E)), (4, .int (nI i))] [] := by
  obtain ⟨k, r, mc, ms, rm, P1, P2, ⟨r1, r2, r3, r4⟩, ⟨b1, b2⟩, hCL, hCM, hF⟩ := op_read hlt (xs (i + 1)) (xs (i + 2)) x t cs sl hx ht
  refine g_aload_n h 1 dL_law_251 rfl rfl ?_
  refine g_aload_n h 0 dL_law_252 rfl rfl ?_
  refine g_iload h 4 dL_law_253 rfl ?_
  refine g_iconst (v := nI 1) h dL_law_255 (by decide) ?_
  refine g_iaddN h dL_law_256 ?_
  refine g_sld h hX hbl hbA (by omega) hL dL_law_257 ?_
  refine g_aload_n h 0 dL_law_258 rfl rfl ?_
  refine g_iload h 4 dL_law_259 rfl ?_
  refine g_iconst (v := nI 2) h dL_law_261 (by decide) ?_
  refine g_iaddN h dL_law_262 ?_
  refine g_sld h hX hbl hbA (by omega) hL dL_law_263 ?_
  refine g_aload_n h 3 dL_law_264 rfl rfl ?_
  refine g_callSW (As := [.ref (aD E), .int (xs (i + 1)), .int (xs (i + 2)), .ref (aO E)]) h 4 hCL rfl gL_law_L_read rfl rfl rfl rfl (by decide +kernel) ⟨Nat.le_of_ble_eq_true rfl, Nat.le_of_ble_eq_true rfl⟩ dL_law_265 ⟨by show cs + mc ≤ 601024; omega, by show sl + ms ≤ 7293034; omega⟩ (Nat.le_of_ble_eq_true rfl) ?_
  rintro _ y1 ⟨rfl, h1⟩
  dsimp only [Option.toList, List.cons_append, List.nil_append]
  refine g_istore (lv' := [(0, _), (1, _), (2, _), (3, _), (4, _), (5, .int k)]) h [1, 2, 3, 4, 5, 0] dL_law_268 (by decide) rfl ?_
  refine g_aload_n h 2 dL_law_270 rfl rfl ?_
  refine g_aload_n h 0 dL_law_271 rfl rfl ?_
  refine g_iload h 4 dL_law_272 rfl ?_
  refine g_iconst (v := nI 1) h dL_law_274 (by decide) ?_
  refine g_iaddN h dL_law_275 ?_
  refine g_sld h hX hbl hbA (by omega) hL dL_law_276 ?_
  refine g_aload_n h 0 dL_law_277 rfl rfl ?_
  refine g_iload h 4 dL_law_278 rfl ?_
  refine g_iconst (v := nI 2) h dL_law_280 (by decide) ?_
  refine g_iaddN h dL_law_281 ?_
  refine g_sld h hX hbl hbA (by omega) hL dL_law_282 ?_
  refine g_callV (As := [.int (xs (i + 1)), .int (xs (i + 2))]) (C := RX6) h 2 (hCM y1 h1) rfl gL_law_X6_read rfl r1 r2 rfl (by decide +kernel) ⟨by show rm.frames + 1 ≤ 16; omega, by show 8 + (_ + 11) + rm.locals ≤ 626; omega⟩ (wat_M E _) rfl rfl dL_law_283 ⟨by show cs + mc + 0 ≤ 601024; omega, by show sl + ms + 0 ≤ 7293034; omega⟩ (Nat.le_of_ble_eq_true rfl) ?_
  rintro _ y2 ⟨rfl, h2⟩
  obtain ⟨hk, hO, hn⟩ := hF y2 h2
  dsimp only [Option.toList, List.cons_append, List.nil_append]
  refine g_istore (lv' := [(0, _), (1, _), (2, _), (3, _), (4, _), (5, .int k), (6, .int r)]) h [1, 2, 3, 4, 5, 6, 0] dL_law_286 (by decide) rfl ?_
  refine g_aload_n h 2 dL_law_288 rfl rfl ?_
  refine g_callV (As := []) (C := RX6) h 0 (c_X6_thrown l E y2) rfl gL_law_X6_thrown rfl rfl rfl rfl (by decide +kernel) ⟨Nat.le_of_ble_eq_true rfl, Nat.le_of_ble_eq_true rfl⟩ (wat_M E _) rfl rfl dL_law_289 ⟨by show cs + mc + 0 + 0 ≤ 601024; omega, by show sl + ms + 0 + 0 ≤ 7293034; omega⟩ (Nat.le_of_ble_eq_true rfl) ?_
  rintro _ _ ⟨rfl, hy⟩
  obtain rfl := hy.symm
  dsimp only [Option.toList, List.cons_append, List.nil_append]
  refine g_iload h 5 dL_law_292 rfl ?_
  refine g_icmp_eq h 299 dL_law_294 (by decide) (fun _ => ?_) (fun z => absurd hk z)
  refine g_iload h 5 dL_law_299 rfl ?_
  have J : G p l e RM0 s m #[.ref b] below meth c Q E S0 7 (cs + mc) (sl + ms) y2 316 [(0, .ref b), (1, .ref (aD E)), (2, .ref (aM E)), (3, .ref (aO E)), (4, .int (nI i)), (5, .int k), (6, .int r)] [] := by
    refine g_lv [0, 1, 2, 3, 4] rfl ?_
    refine g_goto h 1709 dL_law_316 (by decide) ?_
    exact kk _ _ _ hn
  refine g_if_ne h 316 dL_law_301 (by decide) (fun _ => J) (fun hk0 => ?_)
  refine g_aload_n h 3 dL_law_304 rfl rfl ?_
  refine g_iconst (v := nI 0) h dL_law_305 (by decide) ?_
  refine g_lald0 h dL_law_306 ?_
  refine g_iload h 6 dL_law_307 rfl ?_
  have hO2 := hO hk0
  refine g_i2l h dL_law_309 ?_
  refine g_lcmp h dL_law_310 ?_
  rw [hO2, cmp_s]
  exact g_if_eq h 316 dL_law_311 (by decide) (fun _ => J) (fun q => absurd rfl q)
set_option maxRecDepth 100000 in
theorem law_2_write (hlt : l.stackTraces = false) (h : gO p s m #[.ref b] c cL_law 7 RL wsL_law E S0) (hX : va_X b L xs s s.heap) (hbl : b < s.heap.size) (hbA : ¬ gA E S0 s b) (hL : L < 2 ^ 31) {i t : Nat} (hi : i + 4 ≤ L) (hx : LI x t cs sl) (ht : t < 512) (kk : ∀ (y : St) (cs' sl' : Nat), LI y (t + 1) cs' sl' → G p l e RM0 s m #[.ref b] below meth c Q E S0 7 cs' sl' y 1709 [(0, .ref b), (1, .ref (aD E)), (2, .ref (aM E)), (3, .ref (aO E)), (4, .int (nI i))] []) : G p l e RM0 s m #[.ref b] below meth c Q E S0 7 cs sl x 319 [(0, .ref b), (1, .ref (aD E)), (2, .ref (aM E)), (3, .ref (aO E)), (4, .int (nI i))] [] := by
  obtain ⟨k, r, mc, ms, rm, P1, P2, ⟨r1, r2, r3, r4⟩, ⟨b1, b2⟩, hCL, hCM, hF⟩ := op_write hlt (xs (i + 1)) (xs (i + 2)) (xs (i + 3)) x t cs sl hx ht
  refine g_aload_n h 1 dL_law_319 rfl rfl ?_
  refine g_aload_n h 0 dL_law_320 rfl rfl ?_
  refine g_iload h 4 dL_law_321 rfl ?_
  refine g_iconst (v := nI 1) h dL_law_323 (by decide) ?_
  refine g_iaddN h dL_law_324 ?_
  refine g_sld h hX hbl hbA (by omega) hL dL_law_325 ?_
  refine g_aload_n h 0 dL_law_326 rfl rfl ?_
  refine g_iload h 4 dL_law_327 rfl ?_
  refine g_iconst (v := nI 2) h dL_law_329 (by decide) ?_
  refine g_iaddN h dL_law_330 ?_
  refine g_sld h hX hbl hbA (by omega) hL dL_law_331 ?_
  refine g_aload_n h 0 dL_law_332 rfl rfl ?_
  refine g_iload h 4 dL_law_333 rfl ?_
  refine g_iconst (v := nI 3) h dL_law_335 (by decide) ?_
  refine g_iaddN h dL_law_336 ?_
  refine g_sld h hX hbl hbA (by omega) hL dL_law_337 ?_
  refine g_aload_n h 3 dL_law_338 rfl rfl ?_
  refine g_callSW (As := [.ref (aD E), .int (xs (i + 1)), .int (xs (i + 2)), .int (xs (i + 3)), .ref (aO E)]) h 5 hCL rfl gL_law_L_write rfl rfl rfl rfl (by decide +kernel) ⟨Nat.le_of_ble_eq_true rfl, Nat.le_of_ble_eq_true rfl⟩ dL_law_339 ⟨by show cs + mc ≤ 601024; omega, by show sl + ms ≤ 7293034; omega⟩ (Nat.le_of_ble_eq_true rfl) ?_
  rintro _ y1 ⟨rfl, h1⟩
  dsimp only [Option.toList, List.cons_append, List.nil_append]
  refine g_istore (lv' := [(0, _), (1, _), (2, _), (3, _), (4, _), (5, .int k)]) h [1, 2, 3, 4, 5, 0] dL_law_342 (by decide) rfl ?_
  refine g_aload_n h 2 dL_law_344 rfl rfl ?_
  refine g_aload_n h 0 dL_law_345 rfl rfl ?_
  refine g_iload h 4 dL_law_346 rfl ?_
  refine g_iconst (v := nI 1) h dL_law_348 (by decide) ?_
  refine g_iaddN h dL_law_349 ?_
  refine g_sld h hX hbl hbA (by omega) hL dL_law_350 ?_
  refine g_aload_n h 0 dL_law_351 rfl rfl ?_
  refine g_iload h 4 dL_law_352 rfl ?_
  refine g_iconst (v := nI 2) h dL_law_354 (by decide) ?_
  refine g_iaddN h dL_law_355 ?_
  refine g_sld h hX hbl hbA (by omega) hL dL_law_356 ?_
  refine g_aload_n h 0 dL_law_357 rfl rfl ?_
  refine g_iload h 4 dL_law_358 rfl ?_
  refine g_iconst (v := nI 3) h dL_law_360 (by decide) ?_
  refine g_iaddN h dL_law_361 ?_
  refine g_sld h hX hbl hbA (by omega) hL dL_law_362 ?_
  refine g_callV (As := [.int (xs (i + 1)), .int (xs (i + 2)), .int (xs (i + 3))]) (C := RX6) h 3 (hCM y1 h1) rfl gL_law_X6_write rfl r1 r2 rfl (by decide +kernel) ⟨by show rm.frames + 1 ≤ 16; omega, by show 8 + (_ + 11) + rm.locals ≤ 626; omega⟩ (wat_M E _) rfl rfl dL_law_363 ⟨by show cs + mc + 0 ≤ 601024; omega, by show sl + ms + 0 ≤ 7293034; omega⟩ (Nat.le_of_ble_eq_true rfl) ?_
  rintro _ y2 ⟨rfl, h2⟩
  obtain ⟨hk, hO, hn⟩ := hF y2 h2
  dsimp only [Option.toList, List.cons_append, List.nil_append]
  refine g_istore (lv' := [(0, _), (1, _), (2, _), (3, _), (4, _), (5, .int k), (6, .int r)]) h [1, 2, 3, 4, 5, 6, 0] dL_law_366 (by decide) rfl ?_
  refine g_aload_n h 2 dL_law_368 rfl rfl ?_
  refine g_callV (As := []) (C := RX6) h 0 (c_X6_thrown l E y2) rfl gL_law_X6_thrown rfl rfl rfl rfl (by decide +kernel) ⟨Nat.le_of_ble_eq_true rfl, Nat.le_of_ble_eq_true rfl⟩ (wat_M E _) rfl rfl dL_law_369 ⟨by show cs + mc + 0 + 0 ≤ 601024; omega, by show sl + ms + 0 + 0 ≤ 7293034; omega⟩ (Nat.le_of_ble_eq_true rfl) ?_
  rintro _ _ ⟨rfl, hy⟩
  obtain rfl := hy.symm
  dsimp only [Option.toList, List.cons_append, List.nil_append]
  refine g_iload h 5 dL_law_372 rfl ?_
  refine g_icmp_eq h 379 dL_law_374 (by decide) (fun _ => ?_) (fun z => absurd hk z)
  refine g_iload h 5 dL_law_379 rfl ?_
  have J : G p l e RM0 s m #[.ref b] below meth c Q E S0 7 (cs + mc) (sl + ms) y2 403 [(0, .ref b), (1, .ref (aD E)), (2, .ref (aM E)), (3, .ref (aO E)), (4, .int (nI i)), (5, .int k), (6, .int r)] [] := by
    refine g_lv [0, 1, 2, 3, 4] rfl ?_
    refine g_goto h 1709 dL_law_403 (by decide) ?_
    exact kk _ _ _ hn
  refine g_if_ne h 403 dL_law_381 (by decide) (fun _ => J) (fun hk0 => ?_)
  refine g_aload_n h 3 dL_law_384 rfl rfl ?_
  refine g_iconst (v := nI 0) h dL_law_385 (by decide) ?_
  refine g_lald0 h dL_law_386 ?_
  refine g_iload h 6 dL_law_387 rfl ?_
  have hO2 := hO hk0
  dsimp only at hO2
  refine g_if_eq h 396 dL_law_389 (by decide) (fun z => ?_) (fun z => ?_)
  · rw [if_pos z] at hO2
    refine g_lconst (v := 0) h dL_law_396 (by decide) ?_
    refine g_lcmp h dL_law_397 ?_
    rw [hO2, cmp_s]
    exact g_if_eq h 403 dL_law_398 (by decide) (fun _ => J) (fun q => absurd rfl q)
  · rw [if_neg z] at hO2
    refine g_lconst (v := 1) h dL_law_392 (by decide) ?_
    refine g_goto h 397 dL_law_393 (by decide) ?_
    refine g_lcmp h dL_law_397 ?_
    rw [hO2, cmp_s]
    exact g_if_eq h 403 dL_law_398 (by decide) (fun _ => J) (fun q => absurd rfl q)
set_option maxRecDepth 100000 in
theorem law_3_evict (hlt : l.stackTraces = false) (h : gO p s m #[.ref b] c cL_law 7 RL wsL_law E S0) (hX : va_X b L xs s s.heap) (hbl : b < s.heap.size) (hbA : ¬ gA E S0 s b) (hL : L < 2 ^ 31) {i t : Nat} (hi : i + 4 ≤ L) (hx : LI x t cs sl) (ht : t < 512) (kk : ∀ (y : St) (cs' sl' : Nat), LI y (t + 1) cs' sl' → G p l e RM0 s m #[.ref b] below meth c Q E S0 7 cs' sl' y 1709 [(0, .ref b), (1, .ref (aD E)), (2, .ref (aM E)), (3, .ref (aO E)), (4, .int (nI i))] []) : G p l e RM0 s m #[.ref b] below meth c Q E S0 7 cs sl x 406 [(0, .ref b), (1, .ref (aD E)), (2, .ref (aM E)), (3, .ref (aO E)), (4, .int (nI i))] [] := by
  obtain ⟨k, r, mc, ms, rm, P1, P2, ⟨r1, r2, r3, r4⟩, ⟨b1, b2⟩, hCL, hCM, hF⟩ := op_evict hlt (xs (i + 1)) (xs (i + 2)) x t cs sl hx ht
  refine g_aload_n h 1 dL_law_406 rfl rfl ?_
  refine g_aload_n h 0 dL_law_407 rfl rfl ?_
  refine g_iload h 4 dL_law_408 rfl ?_
  refine g_iconst (v := nI 1) h dL_law_410 (by decide) ?_
  refine g_iaddN h dL_law_411 ?_
  refine g_sld h hX hbl hbA (by omega) hL dL_law_412 ?_
  refine g_aload_n h 0 dL_law_413 rfl rfl ?_
  refine g_iload h 4 dL_law_414 rfl ?_
  refine g_iconst (v := nI 2) h dL_law_416 (by decide) ?_
  refine g_iaddN h dL_law_417 ?_
  refine g_sld h hX hbl hbA (by omega) hL dL_law_418 ?_
  refine g_aload_n h 3 dL_law_419 rfl rfl ?_
  refine g_callSW (As := [.ref (aD E), .int (xs (i + 1)), .int (xs (i + 2)), .ref (aO E)]) h 4 hCL rfl gL_law_L_evict rfl rfl rfl rfl (by decide +kernel) ⟨Nat.le_of_ble_eq_true rfl, Nat.le_of_ble_eq_true rfl⟩ dL_law_420 ⟨by show cs + mc ≤ 601024; omega, by show sl + ms ≤ 7293034; omega⟩ (Nat.le_of_ble_eq_true rfl) ?_
  rintro _ y1 ⟨rfl, h1⟩
  dsimp only [Option.toList, List.cons_append, List.nil_append]
  refine g_istore (lv' := [(0, _), (1, _), (2, _), (3, _), (4, _), (5, .int k)]) h [1, 2, 3, 4, 5, 0] dL_law_423 (by decide) rfl ?_
  refine g_aload_n h 2 dL_law_425 rfl rfl ?_
  refine g_aload_n h 0 dL_law_426 rfl rfl ?_
  refine g_iload h 4 dL_law_427 rfl ?_
  refine g_iconst (v := nI 1) h dL_law_429 (by decide) ?_
  refine g_iaddN h dL_law_430 ?_
  refine g_sld h hX hbl hbA (by omega) hL dL_law_431 ?_
  refine g_aload_n h 0 dL_law_432 rfl rfl ?_
  refine g_iload h 4 dL_law_433 rfl ?_
  refine g_iconst (v := nI 2) h dL_law_435 (by decide) ?_
  refine g_iaddN h dL_law_436 ?_
  refine g_sld h hX hbl hbA (by omega) hL dL_law_437 ?_
  refine g_callV (As := [.int (xs (i + 1)), .int (xs (i + 2))]) (C := RX6) h 2 (hCM y1 h1) rfl gL_law_X6_evict rfl r1 r2 rfl (by decide +kernel) ⟨by show rm.frames + 1 ≤ 16; omega, by show 8 + (_ + 11) + rm.locals ≤ 626; omega⟩ (wat_M E _) rfl rfl dL_law_438 ⟨by show cs + mc + 0 ≤ 601024; omega, by show sl + ms + 0 ≤ 7293034; omega⟩ (Nat.le_of_ble_eq_true rfl) ?_
  rintro _ y2 ⟨rfl, h2⟩
  obtain ⟨hk, hO, hn⟩ := hF y2 h2
  dsimp only [Option.toList, List.cons_append, List.nil_append]
  refine g_istore (lv' := [(0, _), (1, _), (2, _), (3, _), (4, _), (5, .int k), (6, .int r)]) h [1, 2, 3, 4, 5, 6, 0] dL_law_441 (by decide) rfl ?_
  refine g_aload_n h 2 dL_law_443 rfl rfl ?_
  refine g_callV (As := []) (C := RX6) h 0 (c_X6_thrown l E y2) rfl gL_law_X6_thrown rfl rfl rfl rfl (by decide +kernel) ⟨Nat.le_of_ble_eq_true rfl, Nat.le_of_ble_eq_true rfl⟩ (wat_M E _) rfl rfl dL_law_444 ⟨by show cs + mc + 0 + 0 ≤ 601024; omega, by show sl + ms + 0 + 0 ≤ 7293034; omega⟩ (Nat.le_of_ble_eq_true rfl) ?_
  rintro _ _ ⟨rfl, hy⟩
  obtain rfl := hy.symm
  dsimp only [Option.toList, List.cons_append, List.nil_append]
  refine g_iload h 5 dL_law_447 rfl ?_
  refine g_icmp_eq h 454 dL_law_449 (by decide) (fun _ => ?_) (fun z => absurd hk z)
  refine g_iload h 5 dL_law_454 rfl ?_
  have J : G p l e RM0 s m #[.ref b] below meth c Q E S0 7 (cs + mc) (sl + ms) y2 471 [(0, .ref b), (1, .ref (aD E)), (2, .ref (aM E)), (3, .ref (aO E)), (4, .int (nI i)), (5, .int k), (6, .int r)] [] := by
    refine g_lv [0, 1, 2, 3, 4] rfl ?_
    refine g_goto h 1709 dL_law_471 (by decide) ?_
    exact kk _ _ _ hn
  refine g_if_ne h 471 dL_law_456 (by decide) (fun _ => J) (fun hk0 => ?_)
  refine g_aload_n h 3 dL_law_459 rfl rfl ?_
  refine g_iconst (v := nI 0) h dL_law_460 (by decide) ?_
  refine g_lald0 h dL_law_461 ?_
  refine g_iload h 6 dL_law_462 rfl ?_
  have hO2 := hO hk0
  refine g_i2l h dL_law_464 ?_
  refine g_lcmp h dL_law_465 ?_
  rw [hO2, cmp_s]
  exact g_if_eq h 471 dL_law_466 (by decide) (fun _ => J) (fun q => absurd rfl q)
set_option maxRecDepth 100000 in
theorem law_4_state (hlt : l.stackTraces = false) (h : gO p s m #[.ref b] c cL_law 7 RL wsL_law E S0) (hX : va_X b L xs s s.heap) (hbl : b < s.heap.size) (hbA : ¬ gA E S0 s b) (hL : L < 2 ^ 31) {i t : Nat} (hi : i + 4 ≤ L) (hx : LI x t cs sl) (ht : t < 512) (kk : ∀ (y : St) (cs' sl' : Nat), LI y (t + 1) cs' sl' → G p l e RM0 s m #[.ref b] below meth c Q E S0 7 cs' sl' y 1709 [(0, .ref b), (1, .ref (aD E)), (2, .ref (aM E)), (3, .ref (aO E)), (4, .int (nI i))] []) : G p l e RM0 s m #[.ref b] below meth c Q E S0 7 cs sl x 474 [(0, .ref b), (1, .ref (aD E)), (2, .ref (aM E)), (3, .ref (aO E)), (4, .int (nI i))] [] := by
  obtain ⟨k, r, mc, ms, rm, P1, P2, ⟨r1, r2, r3, r4⟩, ⟨b1, b2⟩, hCL, hCM, hF⟩ := op_state hlt (xs (i + 1)) (xs (i + 2)) x t cs sl hx ht
  refine g_aload_n h 1 dL_law_474 rfl rfl ?_
  refine g_aload_n h 0 dL_law_475 rfl rfl ?_
  refine g_iload h 4 dL_law_476 rfl ?_
  refine g_iconst (v := nI 1) h dL_law_478 (by decide) ?_
  refine g_iaddN h dL_law_479 ?_
  refine g_sld h hX hbl hbA (by omega) hL dL_law_480 ?_
  refine g_aload_n h 0 dL_law_481 rfl rfl ?_
  refine g_iload h 4 dL_law_482 rfl ?_
  refine g_iconst (v := nI 2) h dL_law_484 (by decide) ?_
  refine g_iaddN h dL_law_485 ?_
  refine g_sld h hX hbl hbA (by omega) hL dL_law_486 ?_
  refine g_aload_n h 3 dL_law_487 rfl rfl ?_
  refine g_callSW (As := [.ref (aD E), .int (xs (i + 1)), .int (xs (i + 2)), .ref (aO E)]) h 4 hCL rfl gL_law_L_state rfl rfl rfl rfl (by decide +kernel) ⟨Nat.le_of_ble_eq_true rfl, Nat.le_of_ble_eq_true rfl⟩ dL_law_488 ⟨by show cs + mc ≤ 601024; omega, by show sl + ms ≤ 7293034; omega⟩ (Nat.le_of_ble_eq_true rfl) ?_
  rintro _ y1 ⟨rfl, h1⟩
  dsimp only [Option.toList, List.cons_append, List.nil_append]
  refine g_istore (lv' := [(0, _), (1, _), (2, _), (3, _), (4, _), (5, .int k)]) h [1, 2, 3, 4, 5, 0] dL_law_491 (by decide) rfl ?_
  refine g_aload_n h 2 dL_law_493 rfl rfl ?_
  refine g_aload_n h 0 dL_law_494 rfl rfl ?_
  refine g_iload h 4 dL_law_495 rfl ?_
  refine g_iconst (v := nI 1) h dL_law_497 (by decide) ?_
  refine g_iaddN h dL_law_498 ?_
  refine g_sld h hX hbl hbA (by omega) hL dL_law_499 ?_
  refine g_aload_n h 0 dL_law_500 rfl rfl ?_
  refine g_iload h 4 dL_law_501 rfl ?_
  refine g_iconst (v := nI 2) h dL_law_503 (by decide) ?_
  refine g_iaddN h dL_law_504 ?_
  refine g_sld h hX hbl hbA (by omega) hL dL_law_505 ?_
  refine g_callV (As := [.int (xs (i + 1)), .int (xs (i + 2))]) (C := RX6) h 2 (hCM y1 h1) rfl gL_law_X6_state rfl r1 r2 rfl (by decide +kernel) ⟨by show rm.frames + 1 ≤ 16; omega, by show 8 + (_ + 11) + rm.locals ≤ 626; omega⟩ (wat_M E _) rfl rfl dL_law_506 ⟨by show cs + mc + 0 ≤ 601024; omega, by show sl + ms + 0 ≤ 7293034; omega⟩ (Nat.le_of_ble_eq_true rfl) ?_
  rintro _ y2 ⟨rfl, h2⟩
  obtain ⟨hk, hO, hn⟩ := hF y2 h2
  dsimp only [Option.toList, List.cons_append, List.nil_append]
  refine g_istore (lv' := [(0, _), (1, _), (2, _), (3, _), (4, _), (5, .int k), (6, .int r)]) h [1, 2, 3, 4, 5, 6, 0] dL_law_509 (by decide) rfl ?_
  refine g_aload_n h 2 dL_law_511 rfl rfl ?_
  refine g_callV (As := []) (C := RX6) h 0 (c_X6_thrown l E y2) rfl gL_law_X6_thrown rfl rfl rfl rfl (by decide +kernel) ⟨Nat.le_of_ble_eq_true rfl, Nat.le_of_ble_eq_true rfl⟩ (wat_M E _) rfl rfl dL_law_512 ⟨by show cs + mc + 0 + 0 ≤ 601024; omega, by show sl + ms + 0 + 0 ≤ 7293034; omega⟩ (Nat.le_of_ble_eq_true rfl) ?_
  rintro _ _ ⟨rfl, hy⟩
  obtain rfl := hy.symm
  dsimp only [Option.toList, List.cons_append, List.nil_append]
  refine g_iload h 5 dL_law_515 rfl ?_
  refine g_icmp_eq h 522 dL_law_517 (by decide) (fun _ => ?_) (fun z => absurd hk z)
  refine g_iload h 5 dL_law_522 rfl ?_
  have J : G p l e RM0 s m #[.ref b] below meth c Q E S0 7 (cs + mc) (sl + ms) y2 539 [(0, .ref b), (1, .ref (aD E)), (2, .ref (aM E)), (3, .ref (aO E)), (4, .int (nI i)), (5, .int k), (6, .int r)] [] := by
    refine g_lv [0, 1, 2, 3, 4] rfl ?_
    refine g_goto h 1709 dL_law_539 (by decide) ?_
    exact kk _ _ _ hn
  refine g_if_ne h 539 dL_law_524 (by decide) (fun _ => J) (fun hk0 => ?_)
  refine g_aload_n h 3 dL_law_527 rfl rfl ?_
  refine g_iconst (v := nI 0) h dL_law_528 (by decide) ?_
  refine g_lald0 h dL_law_529 ?_
  refine g_iload h 6 dL_law_530 rfl ?_
  have hO2 := hO hk0
  refine g_i2l h dL_law_532 ?_
  refine g_lcmp h dL_law_533 ?_
  rw [hO2, cmp_s]
  exact g_if_eq h 539 dL_law_534 (by decide) (fun _ => J) (fun q => absurd rfl q)
set_option maxRecDepth 100000 in
theorem law_5_value (hlt : l.stackTraces = false) (h : gO p s m #[.ref b] c cL_law 7 RL wsL_law E S0) (hX : va_X b L xs s s.heap) (hbl : b < s.heap.size) (hbA : ¬ gA E S0 s b) (hL : L < 2 ^ 31) {i t : Nat} (hi : i + 4 ≤ L) (hx : LI x t cs sl) (ht : t < 512) (kk : ∀ (y : St) (cs' sl' : Nat), LI y (t + 1) cs' sl' → G p l e RM0 s m #[.ref b] below meth c Q E S0 7 cs' sl' y 1709 [(0, .ref b), (1, .ref (aD E)), (2, .ref (aM E)), (3, .ref (aO E)), (4, .int (nI i))] []) : G p l e RM0 s m #[.ref b] below meth c Q E S0 7 cs sl x 542 [(0, .ref b), (1, .ref (aD E)), (2, .ref (aM E)), (3, .ref (aO E)), (4, .int (nI i))] [] := by
  obtain ⟨k, r, mc, ms, rm, P1, P2, ⟨r1, r2, r3, r4⟩, ⟨b1, b2⟩, hCL, hCM, hF⟩ := op_value hlt (xs (i + 1)) (xs (i + 2)) x t cs sl hx ht
  refine g_aload_n h 1 dL_law_542 rfl rfl ?_
  refine g_aload_n h 0 dL_law_543 rfl rfl ?_
  refine g_iload h 4 dL_law_544 rfl ?_
  refine g_iconst (v := nI 1) h dL_law_546 (by decide) ?_
  refine g_iaddN h dL_law_547 ?_
  refine g_sld h hX hbl hbA (by omega) hL dL_law_548 ?_
  refine g_aload_n h 0 dL_law_549 rfl rfl ?_
  refine g_iload h 4 dL_law_550 rfl ?_
  refine g_iconst (v := nI 2) h dL_law_552 (by decide) ?_
  refine g_iaddN h dL_law_553 ?_
  refine g_sld h hX hbl hbA (by omega) hL dL_law_554 ?_
  refine g_aload_n h 3 dL_law_555 rfl rfl ?_
  refine g_callSW (As := [.ref (aD E), .int (xs (i + 1)), .int (xs (i + 2)), .ref (aO E)]) h 4 hCL rfl gL_law_L_value rfl rfl rfl rfl (by decide +kernel) ⟨Nat.le_of_ble_eq_true rfl, Nat.le_of_ble_eq_true rfl⟩ dL_law_556 ⟨by show cs + mc ≤ 601024; omega, by show sl + ms ≤ 7293034; omega⟩ (Nat.le_of_ble_eq_true rfl) ?_
  rintro _ y1 ⟨rfl, h1⟩
  dsimp only [Option.toList, List.cons_append, List.nil_append]
  refine g_istore (lv' := [(0, _), (1, _), (2, _), (3, _), (4, _), (5, .int k)]) h [1, 2, 3, 4, 5, 0] dL_law_559 (by decide) rfl ?_
  refine g_aload_n h 2 dL_law_561 rfl rfl ?_
  refine g_aload_n h 0 dL_law_562 rfl rfl ?_
  refine g_iload h 4 dL_law_563 rfl ?_
  refine g_iconst (v := nI 1) h dL_law_565 (by decide) ?_
  refine g_iaddN h dL_law_566 ?_
  refine g_sld h hX hbl hbA (by omega) hL dL_law_567 ?_
  refine g_aload_n h 0 dL_law_568 rfl rfl ?_
  refine g_iload h 4 dL_law_569 rfl ?_
  refine g_iconst (v := nI 2) h dL_law_571 (by decide) ?_
  refine g_iaddN h dL_law_572 ?_
  refine g_sld h hX hbl hbA (by omega) hL dL_law_573 ?_
  refine g_callV (As := [.int (xs (i + 1)), .int (xs (i + 2))]) (C := RX6) h 2 (hCM y1 h1) rfl gL_law_X6_value rfl r1 r2 rfl (by decide +kernel) ⟨by show rm.frames + 1 ≤ 16; omega, by show 8 + (_ + 11) + rm.locals ≤ 626; omega⟩ (wat_M E _) rfl rfl dL_law_574 ⟨by show cs + mc + 0 ≤ 601024; omega, by show sl + ms + 0 ≤ 7293034; omega⟩ (Nat.le_of_ble_eq_true rfl) ?_
  rintro _ y2 ⟨rfl, h2⟩
  obtain ⟨hk, hO, hn⟩ := hF y2 h2
  dsimp only [Option.toList, List.cons_append, List.nil_append]
  refine g_istore (lv' := [(0, _), (1, _), (2, _), (3, _), (4, _), (5, .int k), (6, .int r)]) h [1, 2, 3, 4, 5, 6, 0] dL_law_577 (by decide) rfl ?_
  refine g_aload_n h 2 dL_law_579 rfl rfl ?_
  refine g_callV (As := []) (C := RX6) h 0 (c_X6_thrown l E y2) rfl gL_law_X6_thrown rfl rfl rfl rfl (by decide +kernel) ⟨Nat.le_of_ble_eq_true rfl, Nat.le_of_ble_eq_true rfl⟩ (wat_M E _) rfl rfl dL_law_580 ⟨by show cs + mc + 0 + 0 ≤ 601024; omega, by show sl + ms + 0 + 0 ≤ 7293034; omega⟩ (Nat.le_of_ble_eq_true rfl) ?_
  rintro _ _ ⟨rfl, hy⟩
  obtain rfl := hy.symm
  dsimp only [Option.toList, List.cons_append, List.nil_append]
  refine g_iload h 5 dL_law_583 rfl ?_
  refine g_icmp_eq h 590 dL_law_585 (by decide) (fun _ => ?_) (fun z => absurd hk z)
  refine g_iload h 5 dL_law_590 rfl ?_
  have J : G p l e RM0 s m #[.ref b] below meth c Q E S0 7 (cs + mc) (sl + ms) y2 607 [(0, .ref b), (1, .ref (aD E)), (2, .ref (aM E)), (3, .ref (aO E)), (4, .int (nI i)), (5, .int k), (6, .int r)] [] := by
    refine g_lv [0, 1, 2, 3, 4] rfl ?_
    refine g_goto h 1709 dL_law_607 (by decide) ?_
    exact kk _ _ _ hn
  refine g_if_ne h 607 dL_law_592 (by decide) (fun _ => J) (fun hk0 => ?_)
  refine g_aload_n h 3 dL_law_595 rfl rfl ?_
  refine g_iconst (v := nI 0) h dL_law_596 (by decide) ?_
  refine g_lald0 h dL_law_597 ?_
  refine g_iload h 6 dL_law_598 rfl ?_
  have hO2 := hO hk0
  refine g_i2l h dL_law_600 ?_
  refine g_lcmp h dL_law_601 ?_
  rw [hO2, cmp_s]
  exact g_if_eq h 607 dL_law_602 (by decide) (fun _ => J) (fun q => absurd rfl q)
set_option maxRecDepth 100000 in
theorem law_6_victimValue (hlt : l.stackTraces = false) (h : gO p s m #[.ref b] c cL_law 7 RL wsL_law E S0) (hX : va_X b L xs s s.heap) (hbl : b < s.heap.size) (hbA : ¬ gA E S0 s b) (hL : L < 2 ^ 31) {i t : Nat} (hi : i + 4 ≤ L) (hx : LI x t cs sl) (ht : t < 512) (kk : ∀ (y : St) (cs' sl' : Nat), LI y (t + 1) cs' sl' → G p l e RM0 s m #[.ref b] below meth c Q E S0 7 cs' sl' y 1709 [(0, .ref b), (1, .ref (aD E)), (2, .ref (aM E)), (3, .ref (aO E)), (4, .int (nI i))] []) : G p l e RM0 s m #[.ref b] below meth c Q E S0 7 cs sl x 610 [(0, .ref b), (1, .ref (aD E)), (2, .ref (aM E)), (3, .ref (aO E)), (4, .int (nI i))] [] := by
  obtain ⟨k, r, mc, ms, rm, P1, P2, ⟨r1, r2, r3, r4⟩, ⟨b1, b2⟩, hCL, hCM, hF⟩ := op_victimValue hlt (xs (i + 1)) (xs (i + 2)) x t cs sl hx ht
  refine g_aload_n h 1 dL_law_610 rfl rfl ?_
  refine g_aload_n h 0 dL_law_611 rfl rfl ?_
  refine g_iload h 4 dL_law_612 rfl ?_
  refine g_iconst (v := nI 1) h dL_law_614 (by decide) ?_
  refine g_iaddN h dL_law_615 ?_
  refine g_sld h hX hbl hbA (by omega) hL dL_law_616 ?_
  refine g_aload_n h 0 dL_law_617 rfl rfl ?_
  refine g_iload h 4 dL_law_618 rfl ?_
  refine g_iconst (v := nI 2) h dL_law_620 (by decide) ?_
  refine g_iaddN h dL_law_621 ?_
  refine g_sld h hX hbl hbA (by omega) hL dL_law_622 ?_
  refine g_aload_n h 3 dL_law_623 rfl rfl ?_
  refine g_callSW (As := [.ref (aD E), .int (xs (i + 1)), .int (xs (i + 2)), .ref (aO E)]) h 4 hCL rfl gL_law_L_victimValue rfl rfl rfl rfl (by decide +kernel) ⟨Nat.le_of_ble_eq_true rfl, Nat.le_of_ble_eq_true rfl⟩ dL_law_624 ⟨by show cs + mc ≤ 601024; omega, by show sl + ms ≤ 7293034; omega⟩ (Nat.le_of_ble_eq_true rfl) ?_
  rintro _ y1 ⟨rfl, h1⟩
  dsimp only [Option.toList, List.cons_append, List.nil_append]
  refine g_istore (lv' := [(0, _), (1, _), (2, _), (3, _), (4, _), (5, .int k)]) h [1, 2, 3, 4, 5, 0] dL_law_627 (by decide) rfl ?_
  refine g_aload_n h 2 dL_law_629 rfl rfl ?_
  refine g_aload_n h 0 dL_law_630 rfl rfl ?_
  refine g_iload h 4 dL_law_631 rfl ?_
  refine g_iconst (v := nI 1) h dL_law_633 (by decide) ?_
  refine g_iaddN h dL_law_634 ?_
  refine g_sld h hX hbl hbA (by omega) hL dL_law_635 ?_
  refine g_aload_n h 0 dL_law_636 rfl rfl ?_
  refine g_iload h 4 dL_law_637 rfl ?_
  refine g_iconst (v := nI 2) h dL_law_639 (by decide) ?_
  refine g_iaddN h dL_law_640 ?_
  refine g_sld h hX hbl hbA (by omega) hL dL_law_641 ?_
  refine g_callV (As := [.int (xs (i + 1)), .int (xs (i + 2))]) (C := RX6) h 2 (hCM y1 h1) rfl gL_law_X6_victimValue rfl r1 r2 rfl (by decide +kernel) ⟨by show rm.frames + 1 ≤ 16; omega, by show 8 + (_ + 11) + rm.locals ≤ 626; omega⟩ (wat_M E _) rfl rfl dL_law_642 ⟨by show cs + mc + 0 ≤ 601024; omega, by show sl + ms + 0 ≤ 7293034; omega⟩ (Nat.le_of_ble_eq_true rfl) ?_
  rintro _ y2 ⟨rfl, h2⟩
  obtain ⟨hk, hO, hn⟩ := hF y2 h2
  dsimp only [Option.toList, List.cons_append, List.nil_append]
  refine g_istore (lv' := [(0, _), (1, _), (2, _), (3, _), (4, _), (5, .int k), (6, .int r)]) h [1, 2, 3, 4, 5, 6, 0] dL_law_645 (by decide) rfl ?_
  refine g_aload_n h 2 dL_law_647 rfl rfl ?_
  refine g_callV (As := []) (C := RX6) h 0 (c_X6_thrown l E y2) rfl gL_law_X6_thrown rfl rfl rfl rfl (by decide +kernel) ⟨Nat.le_of_ble_eq_true rfl, Nat.le_of_ble_eq_true rfl⟩ (wat_M E _) rfl rfl dL_law_648 ⟨by show cs + mc + 0 + 0 ≤ 601024; omega, by show sl + ms + 0 + 0 ≤ 7293034; omega⟩ (Nat.le_of_ble_eq_true rfl) ?_
  rintro _ _ ⟨rfl, hy⟩
  obtain rfl := hy.symm
  dsimp only [Option.toList, List.cons_append, List.nil_append]
  refine g_iload h 5 dL_law_651 rfl ?_
  refine g_icmp_eq h 658 dL_law_653 (by decide) (fun _ => ?_) (fun z => absurd hk z)
  refine g_iload h 5 dL_law_658 rfl ?_
  have J : G p l e RM0 s m #[.ref b] below meth c Q E S0 7 (cs + mc) (sl + ms) y2 675 [(0, .ref b), (1, .ref (aD E)), (2, .ref (aM E)), (3, .ref (aO E)), (4, .int (nI i)), (5, .int k), (6, .int r)] [] := by
    refine g_lv [0, 1, 2, 3, 4] rfl ?_
    refine g_goto h 1709 dL_law_675 (by decide) ?_
    exact kk _ _ _ hn
  refine g_if_ne h 675 dL_law_660 (by decide) (fun _ => J) (fun hk0 => ?_)
  refine g_aload_n h 3 dL_law_663 rfl rfl ?_
  refine g_iconst (v := nI 0) h dL_law_664 (by decide) ?_
  refine g_lald0 h dL_law_665 ?_
  refine g_iload h 6 dL_law_666 rfl ?_
  have hO2 := hO hk0
  refine g_i2l h dL_law_668 ?_
  refine g_lcmp h dL_law_669 ?_
  rw [hO2, cmp_s]
  exact g_if_eq h 675 dL_law_670 (by decide) (fun _ => J) (fun q => absurd rfl q)
set_option maxRecDepth 100000 in
theorem law_7_openLine (hlt : l.stackTraces = false) (h : gO p s m #[.ref b] c cL_law 7 RL wsL_law E S0) (hX : va_X b L xs s s.heap) (hbl : b < s.heap.size) (hbA : ¬ gA E S0 s b) (hL : L < 2 ^ 31) {i t : Nat} (hi : i + 4 ≤ L) (hx : LI x t cs sl) (ht : t < 512) (kk : ∀ (y : St) (cs' sl' : Nat), LI y (t + 1) cs' sl' → G p l e RM0 s m #[.ref b] below meth c Q E S0 7 cs' sl' y 1709 [(0, .ref b), (1, .ref (aD E)), (2, .ref (aM E)), (3, .ref (aO E)), (4, .int (nI i))] []) : G p l e RM0 s m #[.ref b] below meth c Q E S0 7 cs sl x 678 [(0, .ref b), (1, .ref (aD E)), (2, .ref (aM E)), (3, .ref (aO E)), (4, .int (nI i))] [] := by
  obtain ⟨k, r, mc, ms, rm, P1, P2, ⟨r1, r2, r3, r4⟩, ⟨b1, b2⟩, hCL, hCM, hF⟩ := op_openLine hlt (xs (i + 1)) x t cs sl hx ht
  refine g_aload_n h 1 dL_law_678 rfl rfl ?_
  refine g_aload_n h 0 dL_law_679 rfl rfl ?_
  refine g_iload h 4 dL_law_680 rfl ?_
  refine g_iconst (v := nI 1) h dL_law_682 (by decide) ?_
  refine g_iaddN h dL_law_683 ?_
  refine g_sld h hX hbl hbA (by omega) hL dL_law_684 ?_
  refine g_aload_n h 3 dL_law_685 rfl rfl ?_
  refine g_callSW (As := [.ref (aD E), .int (xs (i + 1)), .ref (aO E)]) h 3 hCL rfl gL_law_L_openLine rfl rfl rfl rfl (by decide +kernel) ⟨Nat.le_of_ble_eq_true rfl, Nat.le_of_ble_eq_true rfl⟩ dL_law_686 ⟨by show cs + mc ≤ 601024; omega, by show sl + ms ≤ 7293034; omega⟩ (Nat.le_of_ble_eq_true rfl) ?_
  rintro _ y1 ⟨rfl, h1⟩
  dsimp only [Option.toList, List.cons_append, List.nil_append]
  refine g_istore (lv' := [(0, _), (1, _), (2, _), (3, _), (4, _), (5, .int k)]) h [1, 2, 3, 4, 5, 0] dL_law_689 (by decide) rfl ?_
  refine g_aload_n h 2 dL_law_691 rfl rfl ?_
  refine g_aload_n h 0 dL_law_692 rfl rfl ?_
  refine g_iload h 4 dL_law_693 rfl ?_
  refine g_iconst (v := nI 1) h dL_law_695 (by decide) ?_
  refine g_iaddN h dL_law_696 ?_
  refine g_sld h hX hbl hbA (by omega) hL dL_law_697 ?_
  refine g_callV (As := [.int (xs (i + 1))]) (C := RX6) h 1 (hCM y1 h1) rfl gL_law_X6_openLine rfl r1 r2 rfl (by decide +kernel) ⟨by show rm.frames + 1 ≤ 16; omega, by show 8 + (_ + 11) + rm.locals ≤ 626; omega⟩ (wat_M E _) rfl rfl dL_law_698 ⟨by show cs + mc + 0 ≤ 601024; omega, by show sl + ms + 0 ≤ 7293034; omega⟩ (Nat.le_of_ble_eq_true rfl) ?_
  rintro _ y2 ⟨rfl, h2⟩
  obtain ⟨hk, hO, hn⟩ := hF y2 h2
  dsimp only [Option.toList, List.cons_append, List.nil_append]
  refine g_istore (lv' := [(0, _), (1, _), (2, _), (3, _), (4, _), (5, .int k), (6, .int r)]) h [1, 2, 3, 4, 5, 6, 0] dL_law_701 (by decide) rfl ?_
  refine g_aload_n h 2 dL_law_703 rfl rfl ?_
  refine g_callV (As := []) (C := RX6) h 0 (c_X6_thrown l E y2) rfl gL_law_X6_thrown rfl rfl rfl rfl (by decide +kernel) ⟨Nat.le_of_ble_eq_true rfl, Nat.le_of_ble_eq_true rfl⟩ (wat_M E _) rfl rfl dL_law_704 ⟨by show cs + mc + 0 + 0 ≤ 601024; omega, by show sl + ms + 0 + 0 ≤ 7293034; omega⟩ (Nat.le_of_ble_eq_true rfl) ?_
  rintro _ _ ⟨rfl, hy⟩
  obtain rfl := hy.symm
  dsimp only [Option.toList, List.cons_append, List.nil_append]
  refine g_iload h 5 dL_law_707 rfl ?_
  refine g_icmp_eq h 714 dL_law_709 (by decide) (fun _ => ?_) (fun z => absurd hk z)
  refine g_iload h 5 dL_law_714 rfl ?_
  have J : G p l e RM0 s m #[.ref b] below meth c Q E S0 7 (cs + mc) (sl + ms) y2 731 [(0, .ref b), (1, .ref (aD E)), (2, .ref (aM E)), (3, .ref (aO E)), (4, .int (nI i)), (5, .int k), (6, .int r)] [] := by
    refine g_lv [0, 1, 2, 3, 4] rfl ?_
    refine g_goto h 1709 dL_law_731 (by decide) ?_
    exact kk _ _ _ hn
  refine g_if_ne h 731 dL_law_716 (by decide) (fun _ => J) (fun hk0 => ?_)
  refine g_aload_n h 3 dL_law_719 rfl rfl ?_
  refine g_iconst (v := nI 0) h dL_law_720 (by decide) ?_
  refine g_lald0 h dL_law_721 ?_
  refine g_iload h 6 dL_law_722 rfl ?_
  have hO2 := hO hk0
  refine g_i2l h dL_law_724 ?_
  refine g_lcmp h dL_law_725 ?_
  rw [hO2, cmp_s]
  exact g_if_eq h 731 dL_law_726 (by decide) (fun _ => J) (fun q => absurd rfl q)
set_option maxRecDepth 100000 in
theorem law_8_latestRead (hlt : l.stackTraces = false) (h : gO p s m #[.ref b] c cL_law 7 RL wsL_law E S0) (hX : va_X b L xs s s.heap) (hbl : b < s.heap.size) (hbA : ¬ gA E S0 s b) (hL : L < 2 ^ 31) {i t : Nat} (hi : i + 4 ≤ L) (hx : LI x t cs sl) (ht : t < 512) (kk : ∀ (y : St) (cs' sl' : Nat), LI y (t + 1) cs' sl' → G p l e RM0 s m #[.ref b] below meth c Q E S0 7 cs' sl' y 1709 [(0, .ref b), (1, .ref (aD E)), (2, .ref (aM E)), (3, .ref (aO E)), (4, .int (nI i))] []) : G p l e RM0 s m #[.ref b] below meth c Q E S0 7 cs sl x 734 [(0, .ref b), (1, .ref (aD E)), (2, .ref (aM E)), (3, .ref (aO E)), (4, .int (nI i))] [] := by
  obtain ⟨k, r, mc, ms, rm, P1, P2, ⟨r1, r2, r3, r4⟩, ⟨b1, b2⟩, hCL, hCM, hF⟩ := op_latestRead hlt (xs (i + 1)) x t cs sl hx ht
  refine g_aload_n h 1 dL_law_734 rfl rfl ?_
  refine g_aload_n h 0 dL_law_735 rfl rfl ?_
  refine g_iload h 4 dL_law_736 rfl ?_
  refine g_iconst (v := nI 1) h dL_law_738 (by decide) ?_
  refine g_iaddN h dL_law_739 ?_
  refine g_sld h hX hbl hbA (by omega) hL dL_law_740 ?_
  refine g_aload_n h 3 dL_law_741 rfl rfl ?_
  refine g_callSW (As := [.ref (aD E), .int (xs (i + 1)), .ref (aO E)]) h 3 hCL rfl gL_law_L_latestRead rfl rfl rfl rfl (by decide +kernel) ⟨Nat.le_of_ble_eq_true rfl, Nat.le_of_ble_eq_true rfl⟩ dL_law_742 ⟨by show cs + mc ≤ 601024; omega, by show sl + ms ≤ 7293034; omega⟩ (Nat.le_of_ble_eq_true rfl) ?_
  rintro _ y1 ⟨rfl, h1⟩
  dsimp only [Option.toList, List.cons_append, List.nil_append]
  refine g_istore (lv' := [(0, _), (1, _), (2, _), (3, _), (4, _), (5, .int k)]) h [1, 2, 3, 4, 5, 0] dL_law_745 (by decide) rfl ?_
  refine g_aload_n h 2 dL_law_747 rfl rfl ?_
  refine g_aload_n h 0 dL_law_748 rfl rfl ?_
  refine g_iload h 4 dL_law_749 rfl ?_
  refine g_iconst (v := nI 1) h dL_law_751 (by decide) ?_
  refine g_iaddN h dL_law_752 ?_
  refine g_sld h hX hbl hbA (by omega) hL dL_law_753 ?_
  refine g_callV (As := [.int (xs (i + 1))]) (C := RX6) h 1 (hCM y1 h1) rfl gL_law_X6_latestRead rfl r1 r2 rfl (by decide +kernel) ⟨by show rm.frames + 1 ≤ 16; omega, by show 8 + (_ + 11) + rm.locals ≤ 626; omega⟩ (wat_M E _) rfl rfl dL_law_754 ⟨by show cs + mc + 0 ≤ 601024; omega, by show sl + ms + 0 ≤ 7293034; omega⟩ (Nat.le_of_ble_eq_true rfl) ?_
  rintro _ y2 ⟨rfl, h2⟩
  obtain ⟨hk, hO, hn⟩ := hF y2 h2
  dsimp only [Option.toList, List.cons_append, List.nil_append]
  refine g_istore (lv' := [(0, _), (1, _), (2, _), (3, _), (4, _), (5, .int k), (6, .int r)]) h [1, 2, 3, 4, 5, 6, 0] dL_law_757 (by decide) rfl ?_
  refine g_aload_n h 2 dL_law_759 rfl rfl ?_
  refine g_callV (As := []) (C := RX6) h 0 (c_X6_thrown l E y2) rfl gL_law_X6_thrown rfl rfl rfl rfl (by decide +kernel) ⟨Nat.le_of_ble_eq_true rfl, Nat.le_of_ble_eq_true rfl⟩ (wat_M E _) rfl rfl dL_law_760 ⟨by show cs + mc + 0 + 0 ≤ 601024; omega, by show sl + ms + 0 + 0 ≤ 7293034; omega⟩ (Nat.le_of_ble_eq_true rfl) ?_
  rintro _ _ ⟨rfl, hy⟩
  obtain rfl := hy.symm
  dsimp only [Option.toList, List.cons_append, List.nil_append]
  refine g_iload h 5 dL_law_763 rfl ?_
  refine g_icmp_eq h 770 dL_law_765 (by decide) (fun _ => ?_) (fun z => absurd hk z)
  refine g_iload h 5 dL_law_770 rfl ?_
  have J : G p l e RM0 s m #[.ref b] below meth c Q E S0 7 (cs + mc) (sl + ms) y2 787 [(0, .ref b), (1, .ref (aD E)), (2, .ref (aM E)), (3, .ref (aO E)), (4, .int (nI i)), (5, .int k), (6, .int r)] [] := by
    refine g_lv [0, 1, 2, 3, 4] rfl ?_
    refine g_goto h 1709 dL_law_787 (by decide) ?_
    exact kk _ _ _ hn
  refine g_if_ne h 787 dL_law_772 (by decide) (fun _ => J) (fun hk0 => ?_)
  refine g_aload_n h 3 dL_law_775 rfl rfl ?_
  refine g_iconst (v := nI 0) h dL_law_776 (by decide) ?_
  refine g_lald0 h dL_law_777 ?_
  refine g_iload h 6 dL_law_778 rfl ?_
  have hO2 := hO hk0
  refine g_i2l h dL_law_780 ?_
  refine g_lcmp h dL_law_781 ?_
  rw [hO2, cmp_s]
  exact g_if_eq h 787 dL_law_782 (by decide) (fun _ => J) (fun q => absurd rfl q)
set_option maxRecDepth 100000 in
theorem law_9_lineAt (hlt : l.stackTraces = false) (h : gO p s m #[.ref b] c cL_law 7 RL wsL_law E S0) (hX : va_X b L xs s s.heap) (hbl : b < s.heap.size) (hbA : ¬ gA E S0 s b) (hL : L < 2 ^ 31) {i t : Nat} (hi : i + 4 ≤ L) (hx : LI x t cs sl) (ht : t < 512) (kk : ∀ (y : St) (cs' sl' : Nat), LI y (t + 1) cs' sl' → G p l e RM0 s m #[.ref b] below meth c Q E S0 7 cs' sl' y 1709 [(0, .ref b), (1, .ref (aD E)), (2, .ref (aM E)), (3, .ref (aO E)), (4, .int (nI i))] []) : G p l e RM0 s m #[.ref b] below meth c Q E S0 7 cs sl x 790 [(0, .ref b), (1, .ref (aD E)), (2, .ref (aM E)), (3, .ref (aO E)), (4, .int (nI i))] [] := by
  obtain ⟨k, r, mc, ms, rm, P1, P2, ⟨r1, r2, r3, r4⟩, ⟨b1, b2⟩, hCL, hCM, hF⟩ := op_lineAt hlt (xs (i + 1)) (xs (i + 2)) x t cs sl hx ht
  refine g_aload_n h 1 dL_law_790 rfl rfl ?_
  refine g_aload_n h 0 dL_law_791 rfl rfl ?_
  refine g_iload h 4 dL_law_792 rfl ?_
  refine g_iconst (v := nI 1) h dL_law_794 (by decide) ?_
  refine g_iaddN h dL_law_795 ?_
  refine g_sld h hX hbl hbA (by omega) hL dL_law_796 ?_
  refine g_aload_n h 0 dL_law_797 rfl rfl ?_
  refine g_iload h 4 dL_law_798 rfl ?_
  refine g_iconst (v := nI 2) h dL_law_800 (by decide) ?_
  refine g_iaddN h dL_law_801 ?_
  refine g_sld h hX hbl hbA (by omega) hL dL_law_802 ?_
  refine g_aload_n h 3 dL_law_803 rfl rfl ?_
  refine g_callSW (As := [.ref (aD E), .int (xs (i + 1)), .int (xs (i + 2)), .ref (aO E)]) h 4 hCL rfl gL_law_L_lineAt rfl rfl rfl rfl (by decide +kernel) ⟨Nat.le_of_ble_eq_true rfl, Nat.le_of_ble_eq_true rfl⟩ dL_law_804 ⟨by show cs + mc ≤ 601024; omega, by show sl + ms ≤ 7293034; omega⟩ (Nat.le_of_ble_eq_true rfl) ?_
  rintro _ y1 ⟨rfl, h1⟩
  dsimp only [Option.toList, List.cons_append, List.nil_append]
  refine g_istore (lv' := [(0, _), (1, _), (2, _), (3, _), (4, _), (5, .int k)]) h [1, 2, 3, 4, 5, 0] dL_law_807 (by decide) rfl ?_
  refine g_aload_n h 2 dL_law_809 rfl rfl ?_
  refine g_aload_n h 0 dL_law_810 rfl rfl ?_
  refine g_iload h 4 dL_law_811 rfl ?_
  refine g_iconst (v := nI 1) h dL_law_813 (by decide) ?_
  refine g_iaddN h dL_law_814 ?_
  refine g_sld h hX hbl hbA (by omega) hL dL_law_815 ?_
  refine g_aload_n h 0 dL_law_816 rfl rfl ?_
  refine g_iload h 4 dL_law_817 rfl ?_
  refine g_iconst (v := nI 2) h dL_law_819 (by decide) ?_
  refine g_iaddN h dL_law_820 ?_
  refine g_sld h hX hbl hbA (by omega) hL dL_law_821 ?_
  refine g_callV (As := [.int (xs (i + 1)), .int (xs (i + 2))]) (C := RX6) h 2 (hCM y1 h1) rfl gL_law_X6_lineAt rfl r1 r2 rfl (by decide +kernel) ⟨by show rm.frames + 1 ≤ 16; omega, by show 8 + (_ + 11) + rm.locals ≤ 626; omega⟩ (wat_M E _) rfl rfl dL_law_822 ⟨by show cs + mc + 0 ≤ 601024; omega, by show sl + ms + 0 ≤ 7293034; omega⟩ (Nat.le_of_ble_eq_true rfl) ?_
  rintro _ y2 ⟨rfl, h2⟩
  obtain ⟨hk, hO, hn⟩ := hF y2 h2
  dsimp only [Option.toList, List.cons_append, List.nil_append]
  refine g_istore (lv' := [(0, _), (1, _), (2, _), (3, _), (4, _), (5, .int k), (6, .int r)]) h [1, 2, 3, 4, 5, 6, 0] dL_law_825 (by decide) rfl ?_
  refine g_aload_n h 2 dL_law_827 rfl rfl ?_
  refine g_callV (As := []) (C := RX6) h 0 (c_X6_thrown l E y2) rfl gL_law_X6_thrown rfl rfl rfl rfl (by decide +kernel) ⟨Nat.le_of_ble_eq_true rfl, Nat.le_of_ble_eq_true rfl⟩ (wat_M E _) rfl rfl dL_law_828 ⟨by show cs + mc + 0 + 0 ≤ 601024; omega, by show sl + ms + 0 + 0 ≤ 7293034; omega⟩ (Nat.le_of_ble_eq_true rfl) ?_
  rintro _ _ ⟨rfl, hy⟩
  obtain rfl := hy.symm
  dsimp only [Option.toList, List.cons_append, List.nil_append]
  refine g_iload h 5 dL_law_831 rfl ?_
  refine g_icmp_eq h 838 dL_law_833 (by decide) (fun _ => ?_) (fun z => absurd hk z)
  refine g_iload h 5 dL_law_838 rfl ?_
  have J : G p l e RM0 s m #[.ref b] below meth c Q E S0 7 (cs + mc) (sl + ms) y2 855 [(0, .ref b), (1, .ref (aD E)), (2, .ref (aM E)), (3, .ref (aO E)), (4, .int (nI i)), (5, .int k), (6, .int r)] [] := by
    refine g_lv [0, 1, 2, 3, 4] rfl ?_
    refine g_goto h 1709 dL_law_855 (by decide) ?_
    exact kk _ _ _ hn
  refine g_if_ne h 855 dL_law_840 (by decide) (fun _ => J) (fun hk0 => ?_)
  refine g_aload_n h 3 dL_law_843 rfl rfl ?_
  refine g_iconst (v := nI 0) h dL_law_844 (by decide) ?_
  refine g_lald0 h dL_law_845 ?_
  refine g_iload h 6 dL_law_846 rfl ?_
  have hO2 := hO hk0
  refine g_i2l h dL_law_848 ?_
  refine g_lcmp h dL_law_849 ?_
  rw [hO2, cmp_s]
  exact g_if_eq h 855 dL_law_850 (by decide) (fun _ => J) (fun q => absurd rfl q)
set_option maxRecDepth 100000 in
theorem law_10_owner (hlt : l.stackTraces = false) (h : gO p s m #[.ref b] c cL_law 7 RL wsL_law E S0) (hX : va_X b L xs s s.heap) (hbl : b < s.heap.size) (hbA : ¬ gA E S0 s b) (hL : L < 2 ^ 31) {i t : Nat} (hi : i + 4 ≤ L) (hx : LI x t cs sl) (ht : t < 512) (kk : ∀ (y : St) (cs' sl' : Nat), LI y (t + 1) cs' sl' → G p l e RM0 s m #[.ref b] below meth c Q E S0 7 cs' sl' y 1709 [(0, .ref b), (1, .ref (aD E)), (2, .ref (aM E)), (3, .ref (aO E)), (4, .int (nI i))] []) : G p l e RM0 s m #[.ref b] below meth c Q E S0 7 cs sl x 858 [(0, .ref b), (1, .ref (aD E)), (2, .ref (aM E)), (3, .ref (aO E)), (4, .int (nI i))] [] := by
  obtain ⟨k, r, mc, ms, rm, P1, P2, ⟨r1, r2, r3, r4⟩, ⟨b1, b2⟩, hCL, hCM, hF⟩ := op_owner hlt (xs (i + 1)) x t cs sl hx ht
  refine g_aload_n h 1 dL_law_858 rfl rfl ?_
  refine g_aload_n h 0 dL_law_859 rfl rfl ?_
  refine g_iload h 4 dL_law_860 rfl ?_
  refine g_iconst (v := nI 1) h dL_law_862 (by decide) ?_
  refine g_iaddN h dL_law_863 ?_
  refine g_sld h hX hbl hbA (by omega) hL dL_law_864 ?_
  refine g_aload_n h 3 dL_law_865 rfl rfl ?_
  refine g_callSW (As := [.ref (aD E), .int (xs (i + 1)), .ref (aO E)]) h 3 hCL rfl gL_law_L_owner rfl rfl rfl rfl (by decide +kernel) ⟨Nat.le_of_ble_eq_true rfl, Nat.le_of_ble_eq_true rfl⟩ dL_law_866 ⟨by show cs + mc ≤ 601024; omega, by show sl + ms ≤ 7293034; omega⟩ (Nat.le_of_ble_eq_true rfl) ?_
  rintro _ y1 ⟨rfl, h1⟩
  dsimp only [Option.toList, List.cons_append, List.nil_append]
  refine g_istore (lv' := [(0, _), (1, _), (2, _), (3, _), (4, _), (5, .int k)]) h [1, 2, 3, 4, 5, 0] dL_law_869 (by decide) rfl ?_
  refine g_aload_n h 2 dL_law_871 rfl rfl ?_
  refine g_aload_n h 0 dL_law_872 rfl rfl ?_
  refine g_iload h 4 dL_law_873 rfl ?_
  refine g_iconst (v := nI 1) h dL_law_875 (by decide) ?_
  refine g_iaddN h dL_law_876 ?_
  refine g_sld h hX hbl hbA (by omega) hL dL_law_877 ?_
  refine g_callV (As := [.int (xs (i + 1))]) (C := RX6) h 1 (hCM y1 h1) rfl gL_law_X6_owner rfl r1 r2 rfl (by decide +kernel) ⟨by show rm.frames + 1 ≤ 16; omega, by show 8 + (_ + 11) + rm.locals ≤ 626; omega⟩ (wat_M E _) rfl rfl dL_law_878 ⟨by show cs + mc + 0 ≤ 601024; omega, by show sl + ms + 0 ≤ 7293034; omega⟩ (Nat.le_of_ble_eq_true rfl) ?_
  rintro _ y2 ⟨rfl, h2⟩
  obtain ⟨hk, hO, hn⟩ := hF y2 h2
  dsimp only [Option.toList, List.cons_append, List.nil_append]
  refine g_istore (lv' := [(0, _), (1, _), (2, _), (3, _), (4, _), (5, .int k), (6, .int r)]) h [1, 2, 3, 4, 5, 6, 0] dL_law_881 (by decide) rfl ?_
  refine g_aload_n h 2 dL_law_883 rfl rfl ?_
  refine g_callV (As := []) (C := RX6) h 0 (c_X6_thrown l E y2) rfl gL_law_X6_thrown rfl rfl rfl rfl (by decide +kernel) ⟨Nat.le_of_ble_eq_true rfl, Nat.le_of_ble_eq_true rfl⟩ (wat_M E _) rfl rfl dL_law_884 ⟨by show cs + mc + 0 + 0 ≤ 601024; omega, by show sl + ms + 0 + 0 ≤ 7293034; omega⟩ (Nat.le_of_ble_eq_true rfl) ?_
  rintro _ _ ⟨rfl, hy⟩
  obtain rfl := hy.symm
  dsimp only [Option.toList, List.cons_append, List.nil_append]
  refine g_iload h 5 dL_law_887 rfl ?_
  refine g_icmp_eq h 894 dL_law_889 (by decide) (fun _ => ?_) (fun z => absurd hk z)
  refine g_iload h 5 dL_law_894 rfl ?_
  have J : G p l e RM0 s m #[.ref b] below meth c Q E S0 7 (cs + mc) (sl + ms) y2 911 [(0, .ref b), (1, .ref (aD E)), (2, .ref (aM E)), (3, .ref (aO E)), (4, .int (nI i)), (5, .int k), (6, .int r)] [] := by
    refine g_lv [0, 1, 2, 3, 4] rfl ?_
    refine g_goto h 1709 dL_law_911 (by decide) ?_
    exact kk _ _ _ hn
  refine g_if_ne h 911 dL_law_896 (by decide) (fun _ => J) (fun hk0 => ?_)
  refine g_aload_n h 3 dL_law_899 rfl rfl ?_
  refine g_iconst (v := nI 0) h dL_law_900 (by decide) ?_
  refine g_lald0 h dL_law_901 ?_
  refine g_iload h 6 dL_law_902 rfl ?_
  have hO2 := hO hk0
  refine g_i2l h dL_law_904 ?_
  refine g_lcmp h dL_law_905 ?_
  rw [hO2, cmp_s]
  exact g_if_eq h 911 dL_law_906 (by decide) (fun _ => J) (fun q => absurd rfl q)
set_option maxRecDepth 100000 in
theorem law_11_sharers (hlt : l.stackTraces = false) (h : gO p s m #[.ref b] c cL_law 7 RL wsL_law E S0) (hX : va_X b L xs s s.heap) (hbl : b < s.heap.size) (hbA : ¬ gA E S0 s b) (hL : L < 2 ^ 31) {i t : Nat} (hi : i + 4 ≤ L) (hx : LI x t cs sl) (ht : t < 512) (kk : ∀ (y : St) (cs' sl' : Nat), LI y (t + 1) cs' sl' → G p l e RM0 s m #[.ref b] below meth c Q E S0 7 cs' sl' y 1709 [(0, .ref b), (1, .ref (aD E)), (2, .ref (aM E)), (3, .ref (aO E)), (4, .int (nI i))] []) : G p l e RM0 s m #[.ref b] below meth c Q E S0 7 cs sl x 914 [(0, .ref b), (1, .ref (aD E)), (2, .ref (aM E)), (3, .ref (aO E)), (4, .int (nI i))] [] := by
  obtain ⟨k, r, mc, ms, rm, P1, P2, ⟨r1, r2, r3, r4⟩, ⟨b1, b2⟩, hCL, hCM, hF⟩ := op_sharers hlt (xs (i + 1)) x t cs sl hx ht
  refine g_aload_n h 1 dL_law_914 rfl rfl ?_
  refine g_aload_n h 0 dL_law_915 rfl rfl ?_
  refine g_iload h 4 dL_law_916 rfl ?_
  refine g_iconst (v := nI 1) h dL_law_918 (by decide) ?_
  refine g_iaddN h dL_law_919 ?_
  refine g_sld h hX hbl hbA (by omega) hL dL_law_920 ?_
  refine g_aload_n h 3 dL_law_921 rfl rfl ?_
  refine g_callSW (As := [.ref (aD E), .int (xs (i + 1)), .ref (aO E)]) h 3 hCL rfl gL_law_L_sharers rfl rfl rfl rfl (by decide +kernel) ⟨Nat.le_of_ble_eq_true rfl, Nat.le_of_ble_eq_true rfl⟩ dL_law_922 ⟨by show cs + mc ≤ 601024; omega, by show sl + ms ≤ 7293034; omega⟩ (Nat.le_of_ble_eq_true rfl) ?_
  rintro _ y1 ⟨rfl, h1⟩
  dsimp only [Option.toList, List.cons_append, List.nil_append]
  refine g_istore (lv' := [(0, _), (1, _), (2, _), (3, _), (4, _), (5, .int k)]) h [1, 2, 3, 4, 5, 0] dL_law_925 (by decide) rfl ?_
  refine g_aload_n h 2 dL_law_927 rfl rfl ?_
  refine g_aload_n h 0 dL_law_928 rfl rfl ?_
  refine g_iload h 4 dL_law_929 rfl ?_
  refine g_iconst (v := nI 1) h dL_law_931 (by decide) ?_
  refine g_iaddN h dL_law_932 ?_
  refine g_sld h hX hbl hbA (by omega) hL dL_law_933 ?_
  refine g_callV (As := [.int (xs (i + 1))]) (C := RX6) h 1 (hCM y1 h1) rfl gL_law_X6_sharers rfl r1 r2 rfl (by decide +kernel) ⟨by show rm.frames + 1 ≤ 16; omega, by show 8 + (_ + 11) + rm.locals ≤ 626; omega⟩ (wat_M E _) rfl rfl dL_law_934 ⟨by show cs + mc + 0 ≤ 601024; omega, by show sl + ms + 0 ≤ 7293034; omega⟩ (Nat.le_of_ble_eq_true rfl) ?_
  rintro _ y2 ⟨rfl, h2⟩
  obtain ⟨hk, hO, hn⟩ := hF y2 h2
  dsimp only [Option.toList, List.cons_append, List.nil_append]
  refine g_istore (lv' := [(0, _), (1, _), (2, _), (3, _), (4, _), (5, .int k), (6, .int r)]) h [1, 2, 3, 4, 5, 6, 0] dL_law_937 (by decide) rfl ?_
  refine g_aload_n h 2 dL_law_939 rfl rfl ?_
  refine g_callV (As := []) (C := RX6) h 0 (c_X6_thrown l E y2) rfl gL_law_X6_thrown rfl rfl rfl rfl (by decide +kernel) ⟨Nat.le_of_ble_eq_true rfl, Nat.le_of_ble_eq_true rfl⟩ (wat_M E _) rfl rfl dL_law_940 ⟨by show cs + mc + 0 + 0 ≤ 601024; omega, by show sl + ms + 0 + 0 ≤ 7293034; omega⟩ (Nat.le_of_ble_eq_true rfl) ?_
  rintro _ _ ⟨rfl, hy⟩
  obtain rfl := hy.symm
  dsimp only [Option.toList, List.cons_append, List.nil_append]
  refine g_iload h 5 dL_law_943 rfl ?_
  refine g_icmp_eq h 950 dL_law_945 (by decide) (fun _ => ?_) (fun z => absurd hk z)
  refine g_iload h 5 dL_law_950 rfl ?_
  have J : G p l e RM0 s m #[.ref b] below meth c Q E S0 7 (cs + mc) (sl + ms) y2 967 [(0, .ref b), (1, .ref (aD E)), (2, .ref (aM E)), (3, .ref (aO E)), (4, .int (nI i)), (5, .int k), (6, .int r)] [] := by
    refine g_lv [0, 1, 2, 3, 4] rfl ?_
    refine g_goto h 1709 dL_law_967 (by decide) ?_
    exact kk _ _ _ hn
  refine g_if_ne h 967 dL_law_952 (by decide) (fun _ => J) (fun hk0 => ?_)
  refine g_aload_n h 3 dL_law_955 rfl rfl ?_
  refine g_iconst (v := nI 0) h dL_law_956 (by decide) ?_
  refine g_lald0 h dL_law_957 ?_
  refine g_iload h 6 dL_law_958 rfl ?_
  have hO2 := hO hk0
  refine g_i2l h dL_law_960 ?_
  refine g_lcmp h dL_law_961 ?_
  rw [hO2, cmp_s]
  exact g_if_eq h 967 dL_law_962 (by decide) (fun _ => J) (fun q => absurd rfl q)
set_option maxRecDepth 100000 in
theorem law_12_isBusy (hlt : l.stackTraces = false) (h : gO p s m #[.ref b] c cL_law 7 RL wsL_law E S0) (hX : va_X b L xs s s.heap) (hbl : b < s.heap.size) (hbA : ¬ gA E S0 s b) (hL : L < 2 ^ 31) {i t : Nat} (hi : i + 4 ≤ L) (hx : LI x t cs sl) (ht : t < 512) (kk : ∀ (y : St) (cs' sl' : Nat), LI y (t + 1) cs' sl' → G p l e RM0 s m #[.ref b] below meth c Q E S0 7 cs' sl' y 1709 [(0, .ref b), (1, .ref (aD E)), (2, .ref (aM E)), (3, .ref (aO E)), (4, .int (nI i))] []) : G p l e RM0 s m #[.ref b] below meth c Q E S0 7 cs sl x 970 [(0, .ref b), (1, .ref (aD E)), (2, .ref (aM E)), (3, .ref (aO E)), (4, .int (nI i))] [] := by
  obtain ⟨k, r, mc, ms, rm, P1, P2, ⟨r1, r2, r3, r4⟩, ⟨b1, b2⟩, hCL, hCM, hF⟩ := op_isBusy hlt (xs (i + 1)) x t cs sl hx ht
  refine g_aload_n h 1 dL_law_970 rfl rfl ?_
  refine g_aload_n h 0 dL_law_971 rfl rfl ?_
  refine g_iload h 4 dL_law_972 rfl ?_
  refine g_iconst (v := nI 1) h dL_law_974 (by decide) ?_
  refine g_iaddN h dL_law_975 ?_
  refine g_sld h hX hbl hbA (by omega) hL dL_law_976 ?_
  refine g_aload_n h 3 dL_law_977 rfl rfl ?_
  refine g_callSW (As := [.ref (aD E), .int (xs (i + 1)), .ref (aO E)]) h 3 hCL rfl gL_law_L_isBusy rfl rfl rfl rfl (by decide +kernel) ⟨Nat.le_of_ble_eq_true rfl, Nat.le_of_ble_eq_true rfl⟩ dL_law_978 ⟨by show cs + mc ≤ 601024; omega, by show sl + ms ≤ 7293034; omega⟩ (Nat.le_of_ble_eq_true rfl) ?_
  rintro _ y1 ⟨rfl, h1⟩
  dsimp only [Option.toList, List.cons_append, List.nil_append]
  refine g_istore (lv' := [(0, _), (1, _), (2, _), (3, _), (4, _), (5, .int k)]) h [1, 2, 3, 4, 5, 0] dL_law_981 (by decide) rfl ?_
  refine g_aload_n h 2 dL_law_983 rfl rfl ?_
  refine g_aload_n h 0 dL_law_984 rfl rfl ?_
  refine g_iload h 4 dL_law_985 rfl ?_
  refine g_iconst (v := nI 1) h dL_law_987 (by decide) ?_
  refine g_iaddN h dL_law_988 ?_
  refine g_sld h hX hbl hbA (by omega) hL dL_law_989 ?_
  refine g_callV (As := [.int (xs (i + 1))]) (C := RX6) h 1 (hCM y1 h1) rfl gL_law_X6_isBusy rfl r1 r2 rfl (by decide +kernel) ⟨by show rm.frames + 1 ≤ 16; omega, by show 8 + (_ + 11) + rm.locals ≤ 626; omega⟩ (wat_M E _) rfl rfl dL_law_990 ⟨by show cs + mc + 0 ≤ 601024; omega, by show sl + ms + 0 ≤ 7293034; omega⟩ (Nat.le_of_ble_eq_true rfl) ?_
  rintro _ y2 ⟨rfl, h2⟩
  obtain ⟨hk, hO, hn⟩ := hF y2 h2
  dsimp only [Option.toList, List.cons_append, List.nil_append]
  refine g_istore (lv' := [(0, _), (1, _), (2, _), (3, _), (4, _), (5, .int k), (6, .int r)]) h [1, 2, 3, 4, 5, 6, 0] dL_law_993 (by decide) rfl ?_
  refine g_aload_n h 2 dL_law_995 rfl rfl ?_
  refine g_callV (As := []) (C := RX6) h 0 (c_X6_thrown l E y2) rfl gL_law_X6_thrown rfl rfl rfl rfl (by decide +kernel) ⟨Nat.le_of_ble_eq_true rfl, Nat.le_of_ble_eq_true rfl⟩ (wat_M E _) rfl rfl dL_law_996 ⟨by show cs + mc + 0 + 0 ≤ 601024; omega, by show sl + ms + 0 + 0 ≤ 7293034; omega⟩ (Nat.le_of_ble_eq_true rfl) ?_
  rintro _ _ ⟨rfl, hy⟩
  obtain rfl := hy.symm
  dsimp only [Option.toList, List.cons_append, List.nil_append]
  refine g_iload h 5 dL_law_999 rfl ?_
  refine g_icmp_eq h 1006 dL_law_1001 (by decide) (fun _ => ?_) (fun z => absurd hk z)
  refine g_iload h 5 dL_law_1006 rfl ?_
  have J : G p l e RM0 s m #[.ref b] below meth c Q E S0 7 (cs + mc) (sl + ms) y2 1030 [(0, .ref b), (1, .ref (aD E)), (2, .ref (aM E)), (3, .ref (aO E)), (4, .int (nI i)), (5, .int k), (6, .int r)] [] := by
    refine g_lv [0, 1, 2, 3, 4] rfl ?_
    refine g_goto h 1709 dL_law_1030 (by decide) ?_
    exact kk _ _ _ hn
  refine g_if_ne h 1030 dL_law_1008 (by decide) (fun _ => J) (fun hk0 => ?_)
  refine g_aload_n h 3 dL_law_1011 rfl rfl ?_
  refine g_iconst (v := nI 0) h dL_law_1012 (by decide) ?_
  refine g_lald0 h dL_law_1013 ?_
  refine g_iload h 6 dL_law_1014 rfl ?_
  have hO2 := hO hk0
  dsimp only at hO2
  refine g_if_eq h 1023 dL_law_1016 (by decide) (fun z => ?_) (fun z => ?_)
  · rw [if_pos z] at hO2
    refine g_lconst (v := 0) h dL_law_1023 (by decide) ?_
    refine g_lcmp h dL_law_1024 ?_
    rw [hO2, cmp_s]
    exact g_if_eq h 1030 dL_law_1025 (by decide) (fun _ => J) (fun q => absurd rfl q)
  · rw [if_neg z] at hO2
    refine g_lconst (v := 1) h dL_law_1019 (by decide) ?_
    refine g_goto h 1024 dL_law_1020 (by decide) ?_
    refine g_lcmp h dL_law_1024 ?_
    rw [hO2, cmp_s]
    exact g_if_eq h 1030 dL_law_1025 (by decide) (fun _ => J) (fun q => absurd rfl q)
set_option maxRecDepth 100000 in
theorem law_13_queued (hlt : l.stackTraces = false) (h : gO p s m #[.ref b] c cL_law 7 RL wsL_law E S0) (hX : va_X b L xs s s.heap) (hbl : b < s.heap.size) (hbA : ¬ gA E S0 s b) (hL : L < 2 ^ 31) {i t : Nat} (hi : i + 4 ≤ L) (hx : LI x t cs sl) (ht : t < 512) (kk : ∀ (y : St) (cs' sl' : Nat), LI y (t + 1) cs' sl' → G p l e RM0 s m #[.ref b] below meth c Q E S0 7 cs' sl' y 1709 [(0, .ref b), (1, .ref (aD E)), (2, .ref (aM E)), (3, .ref (aO E)), (4, .int (nI i))] []) : G p l e RM0 s m #[.ref b] below meth c Q E S0 7 cs sl x 1033 [(0, .ref b), (1, .ref (aD E)), (2, .ref (aM E)), (3, .ref (aO E)), (4, .int (nI i))] [] := by
  obtain ⟨k, r, mc, ms, rm, P1, P2, ⟨r1, r2, r3, r4⟩, ⟨b1, b2⟩, hCL, hCM, hF⟩ := op_queued hlt (xs (i + 1)) x t cs sl hx ht
  refine g_aload_n h 1 dL_law_1033 rfl rfl ?_
  refine g_aload_n h 0 dL_law_1034 rfl rfl ?_
  refine g_iload h 4 dL_law_1035 rfl ?_
  refine g_iconst (v := nI 1) h dL_law_1037 (by decide) ?_
  refine g_iaddN h dL_law_1038 ?_
  refine g_sld h hX hbl hbA (by omega) hL dL_law_1039 ?_
  refine g_aload_n h 3 dL_law_1040 rfl rfl ?_
  refine g_callSW (As := [.ref (aD E), .int (xs (i + 1)), .ref (aO E)]) h 3 hCL rfl gL_law_L_queued rfl rfl rfl rfl (by decide +kernel) ⟨Nat.le_of_ble_eq_true rfl, Nat.le_of_ble_eq_true rfl⟩ dL_law_1041 ⟨by show cs + mc ≤ 601024; omega, by show sl + ms ≤ 7293034; omega⟩ (Nat.le_of_ble_eq_true rfl) ?_
  rintro _ y1 ⟨rfl, h1⟩
  dsimp only [Option.toList, List.cons_append, List.nil_append]
  refine g_istore (lv' := [(0, _), (1, _), (2, _), (3, _), (4, _), (5, .int k)]) h [1, 2, 3, 4, 5, 0] dL_law_1044 (by decide) rfl ?_
  refine g_aload_n h 2 dL_law_1046 rfl rfl ?_
  refine g_aload_n h 0 dL_law_1047 rfl rfl ?_
  refine g_iload h 4 dL_law_1048 rfl ?_
  refine g_iconst (v := nI 1) h dL_law_1050 (by decide) ?_
  refine g_iaddN h dL_law_1051 ?_
  refine g_sld h hX hbl hbA (by omega) hL dL_law_1052 ?_
  refine g_callV (As := [.int (xs (i + 1))]) (C := RX6) h 1 (hCM y1 h1) rfl gL_law_X6_queued rfl r1 r2 rfl (by decide +kernel) ⟨by show rm.frames + 1 ≤ 16; omega, by show 8 + (_ + 11) + rm.locals ≤ 626; omega⟩ (wat_M E _) rfl rfl dL_law_1053 ⟨by show cs + mc + 0 ≤ 601024; omega, by show sl + ms + 0 ≤ 7293034; omega⟩ (Nat.le_of_ble_eq_true rfl) ?_
  rintro _ y2 ⟨rfl, h2⟩
  obtain ⟨hk, hO, hn⟩ := hF y2 h2
  dsimp only [Option.toList, List.cons_append, List.nil_append]
  refine g_istore (lv' := [(0, _), (1, _), (2, _), (3, _), (4, _), (5, .int k), (6, .int r)]) h [1, 2, 3, 4, 5, 6, 0] dL_law_1056 (by decide) rfl ?_
  refine g_aload_n h 2 dL_law_1058 rfl rfl ?_
  refine g_callV (As := []) (C := RX6) h 0 (c_X6_thrown l E y2) rfl gL_law_X6_thrown rfl rfl rfl rfl (by decide +kernel) ⟨Nat.le_of_ble_eq_true rfl, Nat.le_of_ble_eq_true rfl⟩ (wat_M E _) rfl rfl dL_law_1059 ⟨by show cs + mc + 0 + 0 ≤ 601024; omega, by show sl + ms + 0 + 0 ≤ 7293034; omega⟩ (Nat.le_of_ble_eq_true rfl) ?_
  rintro _ _ ⟨rfl, hy⟩
  obtain rfl := hy.symm
  dsimp only [Option.toList, List.cons_append, List.nil_append]
  refine g_iload h 5 dL_law_1062 rfl ?_
  refine g_icmp_eq h 1069 dL_law_1064 (by decide) (fun _ => ?_) (fun z => absurd hk z)
  refine g_iload h 5 dL_law_1069 rfl ?_
  have J : G p l e RM0 s m #[.ref b] below meth c Q E S0 7 (cs + mc) (sl + ms) y2 1086 [(0, .ref b), (1, .ref (aD E)), (2, .ref (aM E)), (3, .ref (aO E)), (4, .int (nI i)), (5, .int k), (6, .int r)] [] := by
    refine g_lv [0, 1, 2, 3, 4] rfl ?_
    refine g_goto h 1709 dL_law_1086 (by decide) ?_
    exact kk _ _ _ hn
  refine g_if_ne h 1086 dL_law_1071 (by decide) (fun _ => J) (fun hk0 => ?_)
  refine g_aload_n h 3 dL_law_1074 rfl rfl ?_
  refine g_iconst (v := nI 0) h dL_law_1075 (by decide) ?_
  refine g_lald0 h dL_law_1076 ?_
  refine g_iload h 6 dL_law_1077 rfl ?_
  have hO2 := hO hk0
  refine g_i2l h dL_law_1079 ?_
  refine g_lcmp h dL_law_1080 ?_
  rw [hO2, cmp_s]
  exact g_if_eq h 1086 dL_law_1081 (by decide) (fun _ => J) (fun q => absurd rfl q)
set_option maxRecDepth 100000 in
theorem law_14_memory (hlt : l.stackTraces = false) (h : gO p s m #[.ref b] c cL_law 7 RL wsL_law E S0) (hX : va_X b L xs s s.heap) (hbl : b < s.heap.size) (hbA : ¬ gA E S0 s b) (hL : L < 2 ^ 31) {i t : Nat} (hi : i + 4 ≤ L) (hx : LI x t cs sl) (ht : t < 512) (kk : ∀ (y : St) (cs' sl' : Nat), LI y (t + 1) cs' sl' → G p l e RM0 s m #[.ref b] below meth c Q E S0 7 cs' sl' y 1709 [(0, .ref b), (1, .ref (aD E)), (2, .ref (aM E)), (3, .ref (aO E)), (4, .int (nI i))] []) : G p l e RM0 s m #[.ref b] below meth c Q E S0 7 cs sl x 1089 [(0, .ref b), (1, .ref (aD E)), (2, .ref (aM E)), (3, .ref (aO E)), (4, .int (nI i))] [] := by
  obtain ⟨k, r, mc, ms, rm, P1, P2, ⟨r1, r2, r3, r4⟩, ⟨b1, b2⟩, hCL, hCM, hF⟩ := op_memory hlt (xs (i + 1)) x t cs sl hx ht
  refine g_aload_n h 1 dL_law_1089 rfl rfl ?_
  refine g_aload_n h 0 dL_law_1090 rfl rfl ?_
  refine g_iload h 4 dL_law_1091 rfl ?_
  refine g_iconst (v := nI 1) h dL_law_1093 (by decide) ?_
  refine g_iaddN h dL_law_1094 ?_
  refine g_sld h hX hbl hbA (by omega) hL dL_law_1095 ?_
  refine g_aload_n h 3 dL_law_1096 rfl rfl ?_
  refine g_callSW (As := [.ref (aD E), .int (xs (i + 1)), .ref (aO E)]) h 3 hCL rfl gL_law_L_memory rfl rfl rfl rfl (by decide +kernel) ⟨Nat.le_of_ble_eq_true rfl, Nat.le_of_ble_eq_true rfl⟩ dL_law_1097 ⟨by show cs + mc ≤ 601024; omega, by show sl + ms ≤ 7293034; omega⟩ (Nat.le_of_ble_eq_true rfl) ?_
  rintro _ y1 ⟨rfl, h1⟩
  dsimp only [Option.toList, List.cons_append, List.nil_append]
  refine g_istore (lv' := [(0, _), (1, _), (2, _), (3, _), (4, _), (5, .int k)]) h [1, 2, 3, 4, 5, 0] dL_law_1100 (by decide) rfl ?_
  refine g_aload_n h 2 dL_law_1102 rfl rfl ?_
  refine g_aload_n h 0 dL_law_1103 rfl rfl ?_
  refine g_iload h 4 dL_law_1104 rfl ?_
  refine g_iconst (v := nI 1) h dL_law_1106 (by decide) ?_
  refine g_iaddN h dL_law_1107 ?_
  refine g_sld h hX hbl hbA (by omega) hL dL_law_1108 ?_
  refine g_callV (As := [.int (xs (i + 1))]) (C := RX6) h 1 (hCM y1 h1) rfl gL_law_X6_memory rfl r1 r2 rfl (by decide +kernel) ⟨by show rm.frames + 1 ≤ 16; omega, by show 8 + (_ + 11) + rm.locals ≤ 626; omega⟩ (wat_M E _) rfl rfl dL_law_1109 ⟨by show cs + mc + 0 ≤ 601024; omega, by show sl + ms + 0 ≤ 7293034; omega⟩ (Nat.le_of_ble_eq_true rfl) ?_
  rintro _ y2 ⟨rfl, h2⟩
  obtain ⟨hk, hO, hn⟩ := hF y2 h2
  dsimp only [Option.toList, List.cons_append, List.nil_append]
  refine g_istore (lv' := [(0, _), (1, _), (2, _), (3, _), (4, _), (5, .int k), (6, .int r)]) h [1, 2, 3, 4, 5, 6, 0] dL_law_1112 (by decide) rfl ?_
  refine g_aload_n h 2 dL_law_1114 rfl rfl ?_
  refine g_callV (As := []) (C := RX6) h 0 (c_X6_thrown l E y2) rfl gL_law_X6_thrown rfl rfl rfl rfl (by decide +kernel) ⟨Nat.le_of_ble_eq_true rfl, Nat.le_of_ble_eq_true rfl⟩ (wat_M E _) rfl rfl dL_law_1115 ⟨by show cs + mc + 0 + 0 ≤ 601024; omega, by show sl + ms + 0 + 0 ≤ 7293034; omega⟩ (Nat.le_of_ble_eq_true rfl) ?_
  rintro _ _ ⟨rfl, hy⟩
  obtain rfl := hy.symm
  dsimp only [Option.toList, List.cons_append, List.nil_append]
  refine g_iload h 5 dL_law_1118 rfl ?_
  refine g_icmp_eq h 1125 dL_law_1120 (by decide) (fun _ => ?_) (fun z => absurd hk z)
  refine g_iload h 5 dL_law_1125 rfl ?_
  have J : G p l e RM0 s m #[.ref b] below meth c Q E S0 7 (cs + mc) (sl + ms) y2 1142 [(0, .ref b), (1, .ref (aD E)), (2, .ref (aM E)), (3, .ref (aO E)), (4, .int (nI i)), (5, .int k), (6, .int r)] [] := by
    refine g_lv [0, 1, 2, 3, 4] rfl ?_
    refine g_goto h 1709 dL_law_1142 (by decide) ?_
    exact kk _ _ _ hn
  refine g_if_ne h 1142 dL_law_1127 (by decide) (fun _ => J) (fun hk0 => ?_)
  refine g_aload_n h 3 dL_law_1130 rfl rfl ?_
  refine g_iconst (v := nI 0) h dL_law_1131 (by decide) ?_
  refine g_lald0 h dL_law_1132 ?_
  refine g_iload h 6 dL_law_1133 rfl ?_
  have hO2 := hO hk0
  refine g_i2l h dL_law_1135 ?_
  refine g_lcmp h dL_law_1136 ?_
  rw [hO2, cmp_s]
  exact g_if_eq h 1142 dL_law_1137 (by decide) (fun _ => J) (fun q => absurd rfl q)
set_option maxRecDepth 100000 in
theorem law_15_messageCount (h : gO p s m #[.ref b] c cL_law 7 RL wsL_law E S0) {i t : Nat} (hx : LI x t cs sl) (ht : t < 512) (kk : ∀ (y : St) (cs' sl' : Nat), LI y (t + 1) cs' sl' → G p l e RM0 s m #[.ref b] below meth c Q E S0 7 cs' sl' y 1709 [(0, .ref b), (1, .ref (aD E)), (2, .ref (aM E)), (3, .ref (aO E)), (4, .int (nI i))] []) : G p l e RM0 s m #[.ref b] below meth c Q E S0 7 cs sl x 1145 [(0, .ref b), (1, .ref (aD E)), (2, .ref (aM E)), (3, .ref (aO E)), (4, .int (nI i))] [] := by
  obtain ⟨v, hV, he, hn, hok⟩ := op_messageCount hx ht
  obtain ⟨b1, b2⟩ := hx.le
  refine g_aload_n h 1 dL_law_1145 rfl rfl ?_
  refine g_callV (As := []) (C := RX5) h 0 (c_X5_messageCount l E x v [] hV) rfl gL_law_X5_messageCount rfl rfl rfl rfl (by decide +kernel) ⟨Nat.le_of_ble_eq_true rfl, Nat.le_of_ble_eq_true rfl⟩ (wat_D E _) rfl rfl dL_law_1146 ⟨by show cs + 0 ≤ 601024; omega, by show sl + 0 ≤ 7293034; omega⟩ (Nat.le_of_ble_eq_true rfl) ?_
  rintro _ _ ⟨rfl, hy⟩
  obtain rfl := hy.symm
  dsimp only [Option.toList, List.cons_append, List.nil_append]
  refine g_aload_n h 2 dL_law_1149 rfl rfl ?_
  refine g_callV (As := []) (C := RX6) h 0 (c_X6_messageCount l E x ) rfl gL_law_X6_messageCount rfl rfl rfl rfl (by decide +kernel) ⟨Nat.le_of_ble_eq_true rfl, Nat.le_of_ble_eq_true rfl⟩ (wat_M E _) rfl rfl dL_law_1150 ⟨by show cs + 0 + 0 ≤ 601024; omega, by show sl + 0 + 0 ≤ 7293034; omega⟩ (Nat.le_of_ble_eq_true rfl) ?_
  rintro _ _ ⟨rfl, hy⟩
  obtain rfl := hy.symm
  dsimp only [Option.toList, List.cons_append, List.nil_append]
  rw [he]
  refine g_icmp_eq h 1709 dL_law_1153 (by decide) (fun _ => ?_) (fun z => absurd rfl z)
  exact kk _ _ _ hn
set_option maxRecDepth 100000 in
theorem law_16_messageKind (hlt : l.stackTraces = false) (h : gO p s m #[.ref b] c cL_law 7 RL wsL_law E S0) (hX : va_X b L xs s s.heap) (hbl : b < s.heap.size) (hbA : ¬ gA E S0 s b) (hL : L < 2 ^ 31) {i t : Nat} (hi : i + 4 ≤ L) (hx : LI x t cs sl) (ht : t < 512) (kk : ∀ (y : St) (cs' sl' : Nat), LI y (t + 1) cs' sl' → G p l e RM0 s m #[.ref b] below meth c Q E S0 7 cs' sl' y 1709 [(0, .ref b), (1, .ref (aD E)), (2, .ref (aM E)), (3, .ref (aO E)), (4, .int (nI i))] []) : G p l e RM0 s m #[.ref b] below meth c Q E S0 7 cs sl x 1158 [(0, .ref b), (1, .ref (aD E)), (2, .ref (aM E)), (3, .ref (aO E)), (4, .int (nI i))] [] := by
  obtain ⟨k, r, mc, ms, rm, P1, P2, ⟨r1, r2, r3, r4⟩, ⟨b1, b2⟩, hCL, hCM, hF⟩ := op_messageKind hlt (xs (i + 1)) x t cs sl hx ht
  refine g_aload_n h 1 dL_law_1158 rfl rfl ?_
  refine g_aload_n h 0 dL_law_1159 rfl rfl ?_
  refine g_iload h 4 dL_law_1160 rfl ?_
  refine g_iconst (v := nI 1) h dL_law_1162 (by decide) ?_
  refine g_iaddN h dL_law_1163 ?_
  refine g_sld h hX hbl hbA (by omega) hL dL_law_1164 ?_
  refine g_aload_n h 3 dL_law_1165 rfl rfl ?_
  refine g_callSW (As := [.ref (aD E), .int (xs (i + 1)), .ref (aO E)]) h 3 hCL rfl gL_law_L_messageKind rfl rfl rfl rfl (by decide +kernel) ⟨Nat.le_of_ble_eq_true rfl, Nat.le_of_ble_eq_true rfl⟩ dL_law_1166 ⟨by show cs + mc ≤ 601024; omega, by show sl + ms ≤ 7293034; omega⟩ (Nat.le_of_ble_eq_true rfl) ?_
  rintro _ y1 ⟨rfl, h1⟩
  dsimp only [Option.toList, List.cons_append, List.nil_append]
  refine g_istore (lv' := [(0, _), (1, _), (2, _), (3, _), (4, _), (5, .int k)]) h [1, 2, 3, 4, 5, 0] dL_law_1169 (by decide) rfl ?_
  refine g_aload_n h 2 dL_law_1171 rfl rfl ?_
  refine g_aload_n h 0 dL_law_1172 rfl rfl ?_
  refine g_iload h 4 dL_law_1173 rfl ?_
  refine g_iconst (v := nI 1) h dL_law_1175 (by decide) ?_
  refine g_iaddN h dL_law_1176 ?_
  refine g_sld h hX hbl hbA (by omega) hL dL_law_1177 ?_
  refine g_callV (As := [.int (xs (i + 1))]) (C := RX6) h 1 (hCM y1 h1) rfl gL_law_X6_messageKind rfl r1 r2 rfl (by decide +kernel) ⟨by show rm.frames + 1 ≤ 16; omega, by show 8 + (_ + 11) + rm.locals ≤ 626; omega⟩ (wat_M E _) rfl rfl dL_law_1178 ⟨by show cs + mc + 0 ≤ 601024; omega, by show sl + ms + 0 ≤ 7293034; omega⟩ (Nat.le_of_ble_eq_true rfl) ?_
  rintro _ y2 ⟨rfl, h2⟩
  obtain ⟨hk, hO, hn⟩ := hF y2 h2
  dsimp only [Option.toList, List.cons_append, List.nil_append]
  refine g_istore (lv' := [(0, _), (1, _), (2, _), (3, _), (4, _), (5, .int k), (6, .int r)]) h [1, 2, 3, 4, 5, 6, 0] dL_law_1181 (by decide) rfl ?_
  refine g_aload_n h 2 dL_law_1183 rfl rfl ?_
  refine g_callV (As := []) (C := RX6) h 0 (c_X6_thrown l E y2) rfl gL_law_X6_thrown rfl rfl rfl rfl (by decide +kernel) ⟨Nat.le_of_ble_eq_true rfl, Nat.le_of_ble_eq_true rfl⟩ (wat_M E _) rfl rfl dL_law_1184 ⟨by show cs + mc + 0 + 0 ≤ 601024; omega, by show sl + ms + 0 + 0 ≤ 7293034; omega⟩ (Nat.le_of_ble_eq_true rfl) ?_
  rintro _ _ ⟨rfl, hy⟩
  obtain rfl := hy.symm
  dsimp only [Option.toList, List.cons_append, List.nil_append]
  refine g_iload h 5 dL_law_1187 rfl ?_
  refine g_icmp_eq h 1194 dL_law_1189 (by decide) (fun _ => ?_) (fun z => absurd hk z)
  refine g_iload h 5 dL_law_1194 rfl ?_
  have J : G p l e RM0 s m #[.ref b] below meth c Q E S0 7 (cs + mc) (sl + ms) y2 1211 [(0, .ref b), (1, .ref (aD E)), (2, .ref (aM E)), (3, .ref (aO E)), (4, .int (nI i)), (5, .int k), (6, .int r)] [] := by
    refine g_lv [0, 1, 2, 3, 4] rfl ?_
    refine g_goto h 1709 dL_law_1211 (by decide) ?_
    exact kk _ _ _ hn
  refine g_if_ne h 1211 dL_law_1196 (by decide) (fun _ => J) (fun hk0 => ?_)
  refine g_aload_n h 3 dL_law_1199 rfl rfl ?_
  refine g_iconst (v := nI 0) h dL_law_1200 (by decide) ?_
  refine g_lald0 h dL_law_1201 ?_
  refine g_iload h 6 dL_law_1202 rfl ?_
  have hO2 := hO hk0
  refine g_i2l h dL_law_1204 ?_
  refine g_lcmp h dL_law_1205 ?_
  rw [hO2, cmp_s]
  exact g_if_eq h 1211 dL_law_1206 (by decide) (fun _ => J) (fun q => absurd rfl q)
set_option maxRecDepth 100000 in
theorem law_17_messageLine (hlt : l.stackTraces = false) (h : gO p s m #[.ref b] c cL_law 7 RL wsL_law E S0) (hX : va_X b L xs s s.heap) (hbl : b < s.heap.size) (hbA : ¬ gA E S0 s b) (hL : L < 2 ^ 31) {i t : Nat} (hi : i + 4 ≤ L) (hx : LI x t cs sl) (ht : t < 512) (kk : ∀ (y : St) (cs' sl' : Nat), LI y (t + 1) cs' sl' → G p l e RM0 s m #[.ref b] below meth c Q E S0 7 cs' sl' y 1709 [(0, .ref b), (1, .ref (aD E)), (2, .ref (aM E)), (3, .ref (aO E)), (4, .int (nI i))] []) : G p l e RM0 s m #[.ref b] below meth c Q E S0 7 cs sl x 1214 [(0, .ref b), (1, .ref (aD E)), (2, .ref (aM E)), (3, .ref (aO E)), (4, .int (nI i))] [] := by
  obtain ⟨k, r, mc, ms, rm, P1, P2, ⟨r1, r2, r3, r4⟩, ⟨b1, b2⟩, hCL, hCM, hF⟩ := op_messageLine hlt (xs (i + 1)) x t cs sl hx ht
  refine g_aload_n h 1 dL_law_1214 rfl rfl ?_
  refine g_aload_n h 0 dL_law_1215 rfl rfl ?_
  refine g_iload h 4 dL_law_1216 rfl ?_
  refine g_iconst (v := nI 1) h dL_law_1218 (by decide) ?_
  refine g_iaddN h dL_law_1219 ?_
  refine g_sld h hX hbl hbA (by omega) hL dL_law_1220 ?_
  refine g_aload_n h 3 dL_law_1221 rfl rfl ?_
  refine g_callSW (As := [.ref (aD E), .int (xs (i + 1)), .ref (aO E)]) h 3 hCL rfl gL_law_L_messageLine rfl rfl rfl rfl (by decide +kernel) ⟨Nat.le_of_ble_eq_true rfl, Nat.le_of_ble_eq_true rfl⟩ dL_law_1222 ⟨by show cs + mc ≤ 601024; omega, by show sl + ms ≤ 7293034; omega⟩ (Nat.le_of_ble_eq_true rfl) ?_
  rintro _ y1 ⟨rfl, h1⟩
  dsimp only [Option.toList, List.cons_append, List.nil_append]
  refine g_istore (lv' := [(0, _), (1, _), (2, _), (3, _), (4, _), (5, .int k)]) h [1, 2, 3, 4, 5, 0] dL_law_1225 (by decide) rfl ?_
  refine g_aload_n h 2 dL_law_1227 rfl rfl ?_
  refine g_aload_n h 0 dL_law_1228 rfl rfl ?_
  refine g_iload h 4 dL_law_1229 rfl ?_
  refine g_iconst (v := nI 1) h dL_law_1231 (by decide) ?_
  refine g_iaddN h dL_law_1232 ?_
  refine g_sld h hX hbl hbA (by omega) hL dL_law_1233 ?_
  refine g_callV (As := [.int (xs (i + 1))]) (C := RX6) h 1 (hCM y1 h1) rfl gL_law_X6_messageLine rfl r1 r2 rfl (by decide +kernel) ⟨by show rm.frames + 1 ≤ 16; omega, by show 8 + (_ + 11) + rm.locals ≤ 626; omega⟩ (wat_M E _) rfl rfl dL_law_1234 ⟨by show cs + mc + 0 ≤ 601024; omega, by show sl + ms + 0 ≤ 7293034; omega⟩ (Nat.le_of_ble_eq_true rfl) ?_
  rintro _ y2 ⟨rfl, h2⟩
  obtain ⟨hk, hO, hn⟩ := hF y2 h2
  dsimp only [Option.toList, List.cons_append, List.nil_append]
  refine g_istore (lv' := [(0, _), (1, _), (2, _), (3, _), (4, _), (5, .int k), (6, .int r)]) h [1, 2, 3, 4, 5, 6, 0] dL_law_1237 (by decide) rfl ?_
  refine g_aload_n h 2 dL_law_1239 rfl rfl ?_
  refine g_callV (As := []) (C := RX6) h 0 (c_X6_thrown l E y2) rfl gL_law_X6_thrown rfl rfl rfl rfl (by decide +kernel) ⟨Nat.le_of_ble_eq_true rfl, Nat.le_of_ble_eq_true rfl⟩ (wat_M E _) rfl rfl dL_law_1240 ⟨by show cs + mc + 0 + 0 ≤ 601024; omega, by show sl + ms + 0 + 0 ≤ 7293034; omega⟩ (Nat.le_of_ble_eq_true rfl) ?_
  rintro _ _ ⟨rfl, hy⟩
  obtain rfl := hy.symm
  dsimp only [Option.toList, List.cons_append, List.nil_append]
  refine g_iload h 5 dL_law_1243 rfl ?_
  refine g_icmp_eq h 1250 dL_law_1245 (by decide) (fun _ => ?_) (fun z => absurd hk z)
  refine g_iload h 5 dL_law_1250 rfl ?_
  have J : G p l e RM0 s m #[.ref b] below meth c Q E S0 7 (cs + mc) (sl + ms) y2 1267 [(0, .ref b), (1, .ref (aD E)), (2, .ref (aM E)), (3, .ref (aO E)), (4, .int (nI i)), (5, .int k), (6, .int r)] [] := by
    refine g_lv [0, 1, 2, 3, 4] rfl ?_
    refine g_goto h 1709 dL_law_1267 (by decide) ?_
    exact kk _ _ _ hn
  refine g_if_ne h 1267 dL_law_1252 (by decide) (fun _ => J) (fun hk0 => ?_)
  refine g_aload_n h 3 dL_law_1255 rfl rfl ?_
  refine g_iconst (v := nI 0) h dL_law_1256 (by decide) ?_
  refine g_lald0 h dL_law_1257 ?_
  refine g_iload h 6 dL_law_1258 rfl ?_
  have hO2 := hO hk0
  refine g_i2l h dL_law_1260 ?_
  refine g_lcmp h dL_law_1261 ?_
  rw [hO2, cmp_s]
  exact g_if_eq h 1267 dL_law_1262 (by decide) (fun _ => J) (fun q => absurd rfl q)
set_option maxRecDepth 100000 in
theorem law_18_messageFrom (hlt : l.stackTraces = false) (h : gO p s m #[.ref b] c cL_law 7 RL wsL_law E S0) (hX : va_X b L xs s s.heap) (hbl : b < s.heap.size) (hbA : ¬ gA E S0 s b) (hL : L < 2 ^ 31) {i t : Nat} (hi : i + 4 ≤ L) (hx : LI x t cs sl) (ht : t < 512) (kk : ∀ (y : St) (cs' sl' : Nat), LI y (t + 1) cs' sl' → G p l e RM0 s m #[.ref b] below meth c Q E S0 7 cs' sl' y 1709 [(0, .ref b), (1, .ref (aD E)), (2, .ref (aM E)), (3, .ref (aO E)), (4, .int (nI i))] []) : G p l e RM0 s m #[.ref b] below meth c Q E S0 7 cs sl x 1270 [(0, .ref b), (1, .ref (aD E)), (2, .ref (aM E)), (3, .ref (aO E)), (4, .int (nI i))] [] := by
  obtain ⟨k, r, mc, ms, rm, P1, P2, ⟨r1, r2, r3, r4⟩, ⟨b1, b2⟩, hCL, hCM, hF⟩ := op_messageFrom hlt (xs (i + 1)) x t cs sl hx ht
  refine g_aload_n h 1 dL_law_1270 rfl rfl ?_
  refine g_aload_n h 0 dL_law_1271 rfl rfl ?_
  refine g_iload h 4 dL_law_1272 rfl ?_
  refine g_iconst (v := nI 1) h dL_law_1274 (by decide) ?_
  refine g_iaddN h dL_law_1275 ?_
  refine g_sld h hX hbl hbA (by omega) hL dL_law_1276 ?_
  refine g_aload_n h 3 dL_law_1277 rfl rfl ?_
  refine g_callSW (As := [.ref (aD E), .int (xs (i + 1)), .ref (aO E)]) h 3 hCL rfl gL_law_L_messageFrom rfl rfl rfl rfl (by decide +kernel) ⟨Nat.le_of_ble_eq_true rfl, Nat.le_of_ble_eq_true rfl⟩ dL_law_1278 ⟨by show cs + mc ≤ 601024; omega, by show sl + ms ≤ 7293034; omega⟩ (Nat.le_of_ble_eq_true rfl) ?_
  rintro _ y1 ⟨rfl, h1⟩
  dsimp only [Option.toList, List.cons_append, List.nil_append]
  refine g_istore (lv' := [(0, _), (1, _), (2, _), (3, _), (4, _), (5, .int k)]) h [1, 2, 3, 4, 5, 0] dL_law_1281 (by decide) rfl ?_
  refine g_aload_n h 2 dL_law_1283 rfl rfl ?_
  refine g_aload_n h 0 dL_law_1284 rfl rfl ?_
  refine g_iload h 4 dL_law_1285 rfl ?_
  refine g_iconst (v := nI 1) h dL_law_1287 (by decide) ?_
  refine g_iaddN h dL_law_1288 ?_
  refine g_sld h hX hbl hbA (by omega) hL dL_law_1289 ?_
  refine g_callV (As := [.int (xs (i + 1))]) (C := RX6) h 1 (hCM y1 h1) rfl gL_law_X6_messageFrom rfl r1 r2 rfl (by decide +kernel) ⟨by show rm.frames + 1 ≤ 16; omega, by show 8 + (_ + 11) + rm.locals ≤ 626; omega⟩ (wat_M E _) rfl rfl dL_law_1290 ⟨by show cs + mc + 0 ≤ 601024; omega, by show sl + ms + 0 ≤ 7293034; omega⟩ (Nat.le_of_ble_eq_true rfl) ?_
  rintro _ y2 ⟨rfl, h2⟩
  obtain ⟨hk, hO, hn⟩ := hF y2 h2
  dsimp only [Option.toList, List.cons_append, List.nil_append]
  refine g_istore (lv' := [(0, _), (1, _), (2, _), (3, _), (4, _), (5, .int k), (6, .int r)]) h [1, 2, 3, 4, 5, 6, 0] dL_law_1293 (by decide) rfl ?_
  refine g_aload_n h 2 dL_law_1295 rfl rfl ?_
  refine g_callV (As := []) (C := RX6) h 0 (c_X6_thrown l E y2) rfl gL_law_X6_thrown rfl rfl rfl rfl (by decide +kernel) ⟨Nat.le_of_ble_eq_true rfl, Nat.le_of_ble_eq_true rfl⟩ (wat_M E _) rfl rfl dL_law_1296 ⟨by show cs + mc + 0 + 0 ≤ 601024; omega, by show sl + ms + 0 + 0 ≤ 7293034; omega⟩ (Nat.le_of_ble_eq_true rfl) ?_
  rintro _ _ ⟨rfl, hy⟩
  obtain rfl := hy.symm
  dsimp only [Option.toList, List.cons_append, List.nil_append]
  refine g_iload h 5 dL_law_1299 rfl ?_
  refine g_icmp_eq h 1306 dL_law_1301 (by decide) (fun _ => ?_) (fun z => absurd hk z)
  refine g_iload h 5 dL_law_1306 rfl ?_
  have J : G p l e RM0 s m #[.ref b] below meth c Q E S0 7 (cs + mc) (sl + ms) y2 1323 [(0, .ref b), (1, .ref (aD E)), (2, .ref (aM E)), (3, .ref (aO E)), (4, .int (nI i)), (5, .int k), (6, .int r)] [] := by
    refine g_lv [0, 1, 2, 3, 4] rfl ?_
    refine g_goto h 1709 dL_law_1323 (by decide) ?_
    exact kk _ _ _ hn
  refine g_if_ne h 1323 dL_law_1308 (by decide) (fun _ => J) (fun hk0 => ?_)
  refine g_aload_n h 3 dL_law_1311 rfl rfl ?_
  refine g_iconst (v := nI 0) h dL_law_1312 (by decide) ?_
  refine g_lald0 h dL_law_1313 ?_
  refine g_iload h 6 dL_law_1314 rfl ?_
  have hO2 := hO hk0
  refine g_i2l h dL_law_1316 ?_
  refine g_lcmp h dL_law_1317 ?_
  rw [hO2, cmp_s]
  exact g_if_eq h 1323 dL_law_1318 (by decide) (fun _ => J) (fun q => absurd rfl q)
set_option maxRecDepth 100000 in
theorem law_19_messageTo (hlt : l.stackTraces = false) (h : gO p s m #[.ref b] c cL_law 7 RL wsL_law E S0) (hX : va_X b L xs s s.heap) (hbl : b < s.heap.size) (hbA : ¬ gA E S0 s b) (hL : L < 2 ^ 31) {i t : Nat} (hi : i + 4 ≤ L) (hx : LI x t cs sl) (ht : t < 512) (kk : ∀ (y : St) (cs' sl' : Nat), LI y (t + 1) cs' sl' → G p l e RM0 s m #[.ref b] below meth c Q E S0 7 cs' sl' y 1709 [(0, .ref b), (1, .ref (aD E)), (2, .ref (aM E)), (3, .ref (aO E)), (4, .int (nI i))] []) : G p l e RM0 s m #[.ref b] below meth c Q E S0 7 cs sl x 1326 [(0, .ref b), (1, .ref (aD E)), (2, .ref (aM E)), (3, .ref (aO E)), (4, .int (nI i))] [] := by
  obtain ⟨k, r, mc, ms, rm, P1, P2, ⟨r1, r2, r3, r4⟩, ⟨b1, b2⟩, hCL, hCM, hF⟩ := op_messageTo hlt (xs (i + 1)) x t cs sl hx ht
  refine g_aload_n h 1 dL_law_1326 rfl rfl ?_
  refine g_aload_n h 0 dL_law_1327 rfl rfl ?_
  refine g_iload h 4 dL_law_1328 rfl ?_
  refine g_iconst (v := nI 1) h dL_law_1330 (by decide) ?_
  refine g_iaddN h dL_law_1331 ?_
  refine g_sld h hX hbl hbA (by omega) hL dL_law_1332 ?_
  refine g_aload_n h 3 dL_law_1333 rfl rfl ?_
  refine g_callSW (As := [.ref (aD E), .int (xs (i + 1)), .ref (aO E)]) h 3 hCL rfl gL_law_L_messageTo rfl rfl rfl rfl (by decide +kernel) ⟨Nat.le_of_ble_eq_true rfl, Nat.le_of_ble_eq_true rfl⟩ dL_law_1334 ⟨by show cs + mc ≤ 601024; omega, by show sl + ms ≤ 7293034; omega⟩ (Nat.le_of_ble_eq_true rfl) ?_
  rintro _ y1 ⟨rfl, h1⟩
  dsimp only [Option.toList, List.cons_append, List.nil_append]
  refine g_istore (lv' := [(0, _), (1, _), (2, _), (3, _), (4, _), (5, .int k)]) h [1, 2, 3, 4, 5, 0] dL_law_1337 (by decide) rfl ?_
  refine g_aload_n h 2 dL_law_1339 rfl rfl ?_
  refine g_aload_n h 0 dL_law_1340 rfl rfl ?_
  refine g_iload h 4 dL_law_1341 rfl ?_
  refine g_iconst (v := nI 1) h dL_law_1343 (by decide) ?_
  refine g_iaddN h dL_law_1344 ?_
  refine g_sld h hX hbl hbA (by omega) hL dL_law_1345 ?_
  refine g_callV (As := [.int (xs (i + 1))]) (C := RX6) h 1 (hCM y1 h1) rfl gL_law_X6_messageTo rfl r1 r2 rfl (by decide +kernel) ⟨by show rm.frames + 1 ≤ 16; omega, by show 8 + (_ + 11) + rm.locals ≤ 626; omega⟩ (wat_M E _) rfl rfl dL_law_1346 ⟨by show cs + mc + 0 ≤ 601024; omega, by show sl + ms + 0 ≤ 7293034; omega⟩ (Nat.le_of_ble_eq_true rfl) ?_
  rintro _ y2 ⟨rfl, h2⟩
  obtain ⟨hk, hO, hn⟩ := hF y2 h2
  dsimp only [Option.toList, List.cons_append, List.nil_append]
  refine g_istore (lv' := [(0, _), (1, _), (2, _), (3, _), (4, _), (5, .int k), (6, .int r)]) h [1, 2, 3, 4, 5, 6, 0] dL_law_1349 (by decide) rfl ?_
  refine g_aload_n h 2 dL_law_1351 rfl rfl ?_
  refine g_callV (As := []) (C := RX6) h 0 (c_X6_thrown l E y2) rfl gL_law_X6_thrown rfl rfl rfl rfl (by decide +kernel) ⟨Nat.le_of_ble_eq_true rfl, Nat.le_of_ble_eq_true rfl⟩ (wat_M E _) rfl rfl dL_law_1352 ⟨by show cs + mc + 0 + 0 ≤ 601024; omega, by show sl + ms + 0 + 0 ≤ 7293034; omega⟩ (Nat.le_of_ble_eq_true rfl) ?_
  rintro _ _ ⟨rfl, hy⟩
  obtain rfl := hy.symm
  dsimp only [Option.toList, List.cons_append, List.nil_append]
  refine g_iload h 5 dL_law_1355 rfl ?_
  refine g_icmp_eq h 1362 dL_law_1357 (by decide) (fun _ => ?_) (fun z => absurd hk z)
  refine g_iload h 5 dL_law_1362 rfl ?_
  have J : G p l e RM0 s m #[.ref b] below meth c Q E S0 7 (cs + mc) (sl + ms) y2 1379 [(0, .ref b), (1, .ref (aD E)), (2, .ref (aM E)), (3, .ref (aO E)), (4, .int (nI i)), (5, .int k), (6, .int r)] [] := by
    refine g_lv [0, 1, 2, 3, 4] rfl ?_
    refine g_goto h 1709 dL_law_1379 (by decide) ?_
    exact kk _ _ _ hn
  refine g_if_ne h 1379 dL_law_1364 (by decide) (fun _ => J) (fun hk0 => ?_)
  refine g_aload_n h 3 dL_law_1367 rfl rfl ?_
  refine g_iconst (v := nI 0) h dL_law_1368 (by decide) ?_
  refine g_lald0 h dL_law_1369 ?_
  refine g_iload h 6 dL_law_1370 rfl ?_
  have hO2 := hO hk0
  refine g_i2l h dL_law_1372 ?_
  refine g_lcmp h dL_law_1373 ?_
  rw [hO2, cmp_s]
  exact g_if_eq h 1379 dL_law_1374 (by decide) (fun _ => J) (fun q => absurd rfl q)
set_option maxRecDepth 100000 in
theorem law_20_deliver (hlt : l.stackTraces = false) (h : gO p s m #[.ref b] c cL_law 7 RL wsL_law E S0) (hX : va_X b L xs s s.heap) (hbl : b < s.heap.size) (hbA : ¬ gA E S0 s b) (hL : L < 2 ^ 31) {i t : Nat} (hi : i + 4 ≤ L) (hx : LI x t cs sl) (ht : t < 512) (kk : ∀ (y : St) (cs' sl' : Nat), LI y (t + 1) cs' sl' → G p l e RM0 s m #[.ref b] below meth c Q E S0 7 cs' sl' y 1709 [(0, .ref b), (1, .ref (aD E)), (2, .ref (aM E)), (3, .ref (aO E)), (4, .int (nI i))] []) : G p l e RM0 s m #[.ref b] below meth c Q E S0 7 cs sl x 1382 [(0, .ref b), (1, .ref (aD E)), (2, .ref (aM E)), (3, .ref (aO E)), (4, .int (nI i))] [] := by
  obtain ⟨k, r, mc, ms, rm, P1, P2, ⟨r1, r2, r3, r4⟩, ⟨b1, b2⟩, hCL, hCM, hF⟩ := op_deliver hlt (xs (i + 1)) x t cs sl hx ht
  refine g_aload_n h 1 dL_law_1382 rfl rfl ?_
  refine g_aload_n h 0 dL_law_1383 rfl rfl ?_
  refine g_iload h 4 dL_law_1384 rfl ?_
  refine g_iconst (v := nI 1) h dL_law_1386 (by decide) ?_
  refine g_iaddN h dL_law_1387 ?_
  refine g_sld h hX hbl hbA (by omega) hL dL_law_1388 ?_
  refine g_aload_n h 3 dL_law_1389 rfl rfl ?_
  refine g_callSW (As := [.ref (aD E), .int (xs (i + 1)), .ref (aO E)]) h 3 hCL rfl gL_law_L_deliver rfl rfl rfl rfl (by decide +kernel) ⟨Nat.le_of_ble_eq_true rfl, Nat.le_of_ble_eq_true rfl⟩ dL_law_1390 ⟨by show cs + mc ≤ 601024; omega, by show sl + ms ≤ 7293034; omega⟩ (Nat.le_of_ble_eq_true rfl) ?_
  rintro _ y1 ⟨rfl, h1⟩
  dsimp only [Option.toList, List.cons_append, List.nil_append]
  refine g_istore (lv' := [(0, _), (1, _), (2, _), (3, _), (4, _), (5, .int k)]) h [1, 2, 3, 4, 5, 0] dL_law_1393 (by decide) rfl ?_
  refine g_aload_n h 2 dL_law_1395 rfl rfl ?_
  refine g_aload_n h 0 dL_law_1396 rfl rfl ?_
  refine g_iload h 4 dL_law_1397 rfl ?_
  refine g_iconst (v := nI 1) h dL_law_1399 (by decide) ?_
  refine g_iaddN h dL_law_1400 ?_
  refine g_sld h hX hbl hbA (by omega) hL dL_law_1401 ?_
  refine g_callV (As := [.int (xs (i + 1))]) (C := RX6) h 1 (hCM y1 h1) rfl gL_law_X6_deliver rfl r1 r2 rfl (by decide +kernel) ⟨by show rm.frames + 1 ≤ 16; omega, by show 8 + (_ + 11) + rm.locals ≤ 626; omega⟩ (wat_M E _) rfl rfl dL_law_1402 ⟨by show cs + mc + 0 ≤ 601024; omega, by show sl + ms + 0 ≤ 7293034; omega⟩ (Nat.le_of_ble_eq_true rfl) ?_
  rintro _ y2 ⟨rfl, h2⟩
  obtain ⟨hk, hO, hn⟩ := hF y2 h2
  dsimp only [Option.toList, List.cons_append, List.nil_append]
  refine g_istore (lv' := [(0, _), (1, _), (2, _), (3, _), (4, _), (5, .int k), (6, .int r)]) h [1, 2, 3, 4, 5, 6, 0] dL_law_1405 (by decide) rfl ?_
  refine g_aload_n h 2 dL_law_1407 rfl rfl ?_
  refine g_callV (As := []) (C := RX6) h 0 (c_X6_thrown l E y2) rfl gL_law_X6_thrown rfl rfl rfl rfl (by decide +kernel) ⟨Nat.le_of_ble_eq_true rfl, Nat.le_of_ble_eq_true rfl⟩ (wat_M E _) rfl rfl dL_law_1408 ⟨by show cs + mc + 0 + 0 ≤ 601024; omega, by show sl + ms + 0 + 0 ≤ 7293034; omega⟩ (Nat.le_of_ble_eq_true rfl) ?_
  rintro _ _ ⟨rfl, hy⟩
  obtain rfl := hy.symm
  dsimp only [Option.toList, List.cons_append, List.nil_append]
  refine g_iload h 5 dL_law_1411 rfl ?_
  refine g_icmp_eq h 1418 dL_law_1413 (by decide) (fun _ => ?_) (fun z => absurd hk z)
  refine g_iload h 5 dL_law_1418 rfl ?_
  have J : G p l e RM0 s m #[.ref b] below meth c Q E S0 7 (cs + mc) (sl + ms) y2 1435 [(0, .ref b), (1, .ref (aD E)), (2, .ref (aM E)), (3, .ref (aO E)), (4, .int (nI i)), (5, .int k), (6, .int r)] [] := by
    refine g_lv [0, 1, 2, 3, 4] rfl ?_
    refine g_goto h 1709 dL_law_1435 (by decide) ?_
    exact kk _ _ _ hn
  refine g_if_ne h 1435 dL_law_1420 (by decide) (fun _ => J) (fun hk0 => ?_)
  refine g_aload_n h 3 dL_law_1423 rfl rfl ?_
  refine g_iconst (v := nI 0) h dL_law_1424 (by decide) ?_
  refine g_lald0 h dL_law_1425 ?_
  refine g_iload h 6 dL_law_1426 rfl ?_
  have hO2 := hO hk0
  refine g_i2l h dL_law_1428 ?_
  refine g_lcmp h dL_law_1429 ?_
  rw [hO2, cmp_s]
  exact g_if_eq h 1435 dL_law_1430 (by decide) (fun _ => J) (fun q => absurd rfl q)
set_option maxRecDepth 100000 in
theorem law_21_settle (hlt : l.stackTraces = false) (h : gO p s m #[.ref b] c cL_law 7 RL wsL_law E S0) (hX : va_X b L xs s s.heap) (hbl : b < s.heap.size) (hbA : ¬ gA E S0 s b) (hL : L < 2 ^ 31) {i t : Nat} (hi : i + 4 ≤ L) (hx : LI x t cs sl) (ht : t < 512) (kk : ∀ (y : St) (cs' sl' : Nat), LI y (t + 1) cs' sl' → G p l e RM0 s m #[.ref b] below meth c Q E S0 7 cs' sl' y 1709 [(0, .ref b), (1, .ref (aD E)), (2, .ref (aM E)), (3, .ref (aO E)), (4, .int (nI i))] []) : G p l e RM0 s m #[.ref b] below meth c Q E S0 7 cs sl x 1438 [(0, .ref b), (1, .ref (aD E)), (2, .ref (aM E)), (3, .ref (aO E)), (4, .int (nI i))] [] := by
  obtain ⟨k, r, mc, ms, rm, P1, P2, ⟨r1, r2, r3, r4⟩, ⟨b1, b2⟩, hCL, hCM, hF⟩ := op_settle hlt (xs (i + 1)) x t cs sl hx ht
  refine g_aload_n h 1 dL_law_1438 rfl rfl ?_
  refine g_aload_n h 0 dL_law_1439 rfl rfl ?_
  refine g_iload h 4 dL_law_1440 rfl ?_
  refine g_iconst (v := nI 1) h dL_law_1442 (by decide) ?_
  refine g_iaddN h dL_law_1443 ?_
  refine g_sld h hX hbl hbA (by omega) hL dL_law_1444 ?_
  refine g_aload_n h 3 dL_law_1445 rfl rfl ?_
  refine g_callSW (As := [.ref (aD E), .int (xs (i + 1)), .ref (aO E)]) h 3 hCL rfl gL_law_L_settle rfl rfl rfl rfl (by decide +kernel) ⟨Nat.le_of_ble_eq_true rfl, Nat.le_of_ble_eq_true rfl⟩ dL_law_1446 ⟨by show cs + mc ≤ 601024; omega, by show sl + ms ≤ 7293034; omega⟩ (Nat.le_of_ble_eq_true rfl) ?_
  rintro _ y1 ⟨rfl, h1⟩
  dsimp only [Option.toList, List.cons_append, List.nil_append]
  refine g_istore (lv' := [(0, _), (1, _), (2, _), (3, _), (4, _), (5, .int k)]) h [1, 2, 3, 4, 5, 0] dL_law_1449 (by decide) rfl ?_
  refine g_aload_n h 2 dL_law_1451 rfl rfl ?_
  refine g_aload_n h 0 dL_law_1452 rfl rfl ?_
  refine g_iload h 4 dL_law_1453 rfl ?_
  refine g_iconst (v := nI 1) h dL_law_1455 (by decide) ?_
  refine g_iaddN h dL_law_1456 ?_
  refine g_sld h hX hbl hbA (by omega) hL dL_law_1457 ?_
  refine g_callV (As := [.int (xs (i + 1))]) (C := RX6) h 1 (hCM y1 h1) rfl gL_law_X6_settle rfl r1 r2 rfl (by decide +kernel) ⟨by show rm.frames + 1 ≤ 16; omega, by show 8 + (_ + 11) + rm.locals ≤ 626; omega⟩ (wat_M E _) rfl rfl dL_law_1458 ⟨by show cs + mc + 0 ≤ 601024; omega, by show sl + ms + 0 ≤ 7293034; omega⟩ (Nat.le_of_ble_eq_true rfl) ?_
  rintro _ y2 ⟨rfl, h2⟩
  obtain ⟨hk, hO, hn⟩ := hF y2 h2
  dsimp only [Option.toList, List.cons_append, List.nil_append]
  refine g_istore (lv' := [(0, _), (1, _), (2, _), (3, _), (4, _), (5, .int k), (6, .int r)]) h [1, 2, 3, 4, 5, 6, 0] dL_law_1461 (by decide) rfl ?_
  refine g_aload_n h 2 dL_law_1463 rfl rfl ?_
  refine g_callV (As := []) (C := RX6) h 0 (c_X6_thrown l E y2) rfl gL_law_X6_thrown rfl rfl rfl rfl (by decide +kernel) ⟨Nat.le_of_ble_eq_true rfl, Nat.le_of_ble_eq_true rfl⟩ (wat_M E _) rfl rfl dL_law_1464 ⟨by show cs + mc + 0 + 0 ≤ 601024; omega, by show sl + ms + 0 + 0 ≤ 7293034; omega⟩ (Nat.le_of_ble_eq_true rfl) ?_
  rintro _ _ ⟨rfl, hy⟩
  obtain rfl := hy.symm
  dsimp only [Option.toList, List.cons_append, List.nil_append]
  refine g_iload h 5 dL_law_1467 rfl ?_
  refine g_icmp_eq h 1474 dL_law_1469 (by decide) (fun _ => ?_) (fun z => absurd hk z)
  refine g_iload h 5 dL_law_1474 rfl ?_
  have J : G p l e RM0 s m #[.ref b] below meth c Q E S0 7 (cs + mc) (sl + ms) y2 1491 [(0, .ref b), (1, .ref (aD E)), (2, .ref (aM E)), (3, .ref (aO E)), (4, .int (nI i)), (5, .int k), (6, .int r)] [] := by
    refine g_lv [0, 1, 2, 3, 4] rfl ?_
    refine g_goto h 1709 dL_law_1491 (by decide) ?_
    exact kk _ _ _ hn
  refine g_if_ne h 1491 dL_law_1476 (by decide) (fun _ => J) (fun hk0 => ?_)
  refine g_aload_n h 3 dL_law_1479 rfl rfl ?_
  refine g_iconst (v := nI 0) h dL_law_1480 (by decide) ?_
  refine g_lald0 h dL_law_1481 ?_
  refine g_iload h 6 dL_law_1482 rfl ?_
  have hO2 := hO hk0
  refine g_i2l h dL_law_1484 ?_
  refine g_lcmp h dL_law_1485 ?_
  rw [hO2, cmp_s]
  exact g_if_eq h 1491 dL_law_1486 (by decide) (fun _ => J) (fun q => absurd rfl q)
set_option maxRecDepth 100000 in
theorem law_22_hits (hlt : l.stackTraces = false) (h : gO p s m #[.ref b] c cL_law 7 RL wsL_law E S0) (hX : va_X b L xs s s.heap) (hbl : b < s.heap.size) (hbA : ¬ gA E S0 s b) (hL : L < 2 ^ 31) {i t : Nat} (hi : i + 4 ≤ L) (hx : LI x t cs sl) (ht : t < 512) (kk : ∀ (y : St) (cs' sl' : Nat), LI y (t + 1) cs' sl' → G p l e RM0 s m #[.ref b] below meth c Q E S0 7 cs' sl' y 1709 [(0, .ref b), (1, .ref (aD E)), (2, .ref (aM E)), (3, .ref (aO E)), (4, .int (nI i))] []) : G p l e RM0 s m #[.ref b] below meth c Q E S0 7 cs sl x 1494 [(0, .ref b), (1, .ref (aD E)), (2, .ref (aM E)), (3, .ref (aO E)), (4, .int (nI i))] [] := by
  obtain ⟨k, r, mc, ms, rm, P1, P2, ⟨r1, r2, r3, r4⟩, ⟨b1, b2⟩, hCL, hCM, hF⟩ := op_hits hlt (xs (i + 1)) x t cs sl hx ht
  refine g_aload_n h 1 dL_law_1494 rfl rfl ?_
  refine g_aload_n h 0 dL_law_1495 rfl rfl ?_
  refine g_iload h 4 dL_law_1496 rfl ?_
  refine g_iconst (v := nI 1) h dL_law_1498 (by decide) ?_
  refine g_iaddN h dL_law_1499 ?_
  refine g_sld h hX hbl hbA (by omega) hL dL_law_1500 ?_
  refine g_aload_n h 3 dL_law_1501 rfl rfl ?_
  refine g_callSW (As := [.ref (aD E), .int (xs (i + 1)), .ref (aO E)]) h 3 hCL rfl gL_law_L_hits rfl rfl rfl rfl (by decide +kernel) ⟨Nat.le_of_ble_eq_true rfl, Nat.le_of_ble_eq_true rfl⟩ dL_law_1502 ⟨by show cs + mc ≤ 601024; omega, by show sl + ms ≤ 7293034; omega⟩ (Nat.le_of_ble_eq_true rfl) ?_
  rintro _ y1 ⟨rfl, h1⟩
  dsimp only [Option.toList, List.cons_append, List.nil_append]
  refine g_istore (lv' := [(0, _), (1, _), (2, _), (3, _), (4, _), (5, .int k)]) h [1, 2, 3, 4, 5, 0] dL_law_1505 (by decide) rfl ?_
  refine g_aload_n h 2 dL_law_1507 rfl rfl ?_
  refine g_aload_n h 0 dL_law_1508 rfl rfl ?_
  refine g_iload h 4 dL_law_1509 rfl ?_
  refine g_iconst (v := nI 1) h dL_law_1511 (by decide) ?_
  refine g_iaddN h dL_law_1512 ?_
  refine g_sld h hX hbl hbA (by omega) hL dL_law_1513 ?_
  refine g_callV (As := [.int (xs (i + 1))]) (C := RX6) h 1 (hCM y1 h1) rfl gL_law_X6_hits rfl r1 r2 rfl (by decide +kernel) ⟨by show rm.frames + 1 ≤ 16; omega, by show 8 + (_ + 11) + rm.locals ≤ 626; omega⟩ (wat_M E _) rfl rfl dL_law_1514 ⟨by show cs + mc + 0 ≤ 601024; omega, by show sl + ms + 0 ≤ 7293034; omega⟩ (Nat.le_of_ble_eq_true rfl) ?_
  rintro _ y2 ⟨rfl, h2⟩
  obtain ⟨hk, hO, hn⟩ := hF y2 h2
  dsimp only [Option.toList, List.cons_append, List.nil_append]
  refine g_istore (lv' := [(0, _), (1, _), (2, _), (3, _), (4, _), (5, .int k), (6, .int r)]) h [1, 2, 3, 4, 5, 6, 0] dL_law_1517 (by decide) rfl ?_
  refine g_aload_n h 2 dL_law_1519 rfl rfl ?_
  refine g_callV (As := []) (C := RX6) h 0 (c_X6_thrown l E y2) rfl gL_law_X6_thrown rfl rfl rfl rfl (by decide +kernel) ⟨Nat.le_of_ble_eq_true rfl, Nat.le_of_ble_eq_true rfl⟩ (wat_M E _) rfl rfl dL_law_1520 ⟨by show cs + mc + 0 + 0 ≤ 601024; omega, by show sl + ms + 0 + 0 ≤ 7293034; omega⟩ (Nat.le_of_ble_eq_true rfl) ?_
  rintro _ _ ⟨rfl, hy⟩
  obtain rfl := hy.symm
  dsimp only [Option.toList, List.cons_append, List.nil_append]
  refine g_iload h 5 dL_law_1523 rfl ?_
  refine g_icmp_eq h 1530 dL_law_1525 (by decide) (fun _ => ?_) (fun z => absurd hk z)
  refine g_iload h 5 dL_law_1530 rfl ?_
  have J : G p l e RM0 s m #[.ref b] below meth c Q E S0 7 (cs + mc) (sl + ms) y2 1547 [(0, .ref b), (1, .ref (aD E)), (2, .ref (aM E)), (3, .ref (aO E)), (4, .int (nI i)), (5, .int k), (6, .int r)] [] := by
    refine g_lv [0, 1, 2, 3, 4] rfl ?_
    refine g_goto h 1709 dL_law_1547 (by decide) ?_
    exact kk _ _ _ hn
  refine g_if_ne h 1547 dL_law_1532 (by decide) (fun _ => J) (fun hk0 => ?_)
  refine g_aload_n h 3 dL_law_1535 rfl rfl ?_
  refine g_iconst (v := nI 0) h dL_law_1536 (by decide) ?_
  refine g_lald0 h dL_law_1537 ?_
  refine g_iload h 6 dL_law_1538 rfl ?_
  have hO2 := hO hk0
  refine g_i2l h dL_law_1540 ?_
  refine g_lcmp h dL_law_1541 ?_
  rw [hO2, cmp_s]
  exact g_if_eq h 1547 dL_law_1542 (by decide) (fun _ => J) (fun q => absurd rfl q)
set_option maxRecDepth 100000 in
theorem law_23_misses (hlt : l.stackTraces = false) (h : gO p s m #[.ref b] c cL_law 7 RL wsL_law E S0) (hX : va_X b L xs s s.heap) (hbl : b < s.heap.size) (hbA : ¬ gA E S0 s b) (hL : L < 2 ^ 31) {i t : Nat} (hi : i + 4 ≤ L) (hx : LI x t cs sl) (ht : t < 512) (kk : ∀ (y : St) (cs' sl' : Nat), LI y (t + 1) cs' sl' → G p l e RM0 s m #[.ref b] below meth c Q E S0 7 cs' sl' y 1709 [(0, .ref b), (1, .ref (aD E)), (2, .ref (aM E)), (3, .ref (aO E)), (4, .int (nI i))] []) : G p l e RM0 s m #[.ref b] below meth c Q E S0 7 cs sl x 1550 [(0, .ref b), (1, .ref (aD E)), (2, .ref (aM E)), (3, .ref (aO E)), (4, .int (nI i))] [] := by
  obtain ⟨k, r, mc, ms, rm, P1, P2, ⟨r1, r2, r3, r4⟩, ⟨b1, b2⟩, hCL, hCM, hF⟩ := op_misses hlt (xs (i + 1)) x t cs sl hx ht
  refine g_aload_n h 1 dL_law_1550 rfl rfl ?_
  refine g_aload_n h 0 dL_law_1551 rfl rfl ?_
  refine g_iload h 4 dL_law_1552 rfl ?_
  refine g_iconst (v := nI 1) h dL_law_1554 (by decide) ?_
  refine g_iaddN h dL_law_1555 ?_
  refine g_sld h hX hbl hbA (by omega) hL dL_law_1556 ?_
  refine g_aload_n h 3 dL_law_1557 rfl rfl ?_
  refine g_callSW (As := [.ref (aD E), .int (xs (i + 1)), .ref (aO E)]) h 3 hCL rfl gL_law_L_misses rfl rfl rfl rfl (by decide +kernel) ⟨Nat.le_of_ble_eq_true rfl, Nat.le_of_ble_eq_true rfl⟩ dL_law_1558 ⟨by show cs + mc ≤ 601024; omega, by show sl + ms ≤ 7293034; omega⟩ (Nat.le_of_ble_eq_true rfl) ?_
  rintro _ y1 ⟨rfl, h1⟩
  dsimp only [Option.toList, List.cons_append, List.nil_append]
  refine g_istore (lv' := [(0, _), (1, _), (2, _), (3, _), (4, _), (5, .int k)]) h [1, 2, 3, 4, 5, 0] dL_law_1561 (by decide) rfl ?_
  refine g_aload_n h 2 dL_law_1563 rfl rfl ?_
  refine g_aload_n h 0 dL_law_1564 rfl rfl ?_
  refine g_iload h 4 dL_law_1565 rfl ?_
  refine g_iconst (v := nI 1) h dL_law_1567 (by decide) ?_
  refine g_iaddN h dL_law_1568 ?_
  refine g_sld h hX hbl hbA (by omega) hL dL_law_1569 ?_
  refine g_callV (As := [.int (xs (i + 1))]) (C := RX6) h 1 (hCM y1 h1) rfl gL_law_X6_misses rfl r1 r2 rfl (by decide +kernel) ⟨by show rm.frames + 1 ≤ 16; omega, by show 8 + (_ + 11) + rm.locals ≤ 626; omega⟩ (wat_M E _) rfl rfl dL_law_1570 ⟨by show cs + mc + 0 ≤ 601024; omega, by show sl + ms + 0 ≤ 7293034; omega⟩ (Nat.le_of_ble_eq_true rfl) ?_
  rintro _ y2 ⟨rfl, h2⟩
  obtain ⟨hk, hO, hn⟩ := hF y2 h2
  dsimp only [Option.toList, List.cons_append, List.nil_append]
  refine g_istore (lv' := [(0, _), (1, _), (2, _), (3, _), (4, _), (5, .int k), (6, .int r)]) h [1, 2, 3, 4, 5, 6, 0] dL_law_1573 (by decide) rfl ?_
  refine g_aload_n h 2 dL_law_1575 rfl rfl ?_
  refine g_callV (As := []) (C := RX6) h 0 (c_X6_thrown l E y2) rfl gL_law_X6_thrown rfl rfl rfl rfl (by decide +kernel) ⟨Nat.le_of_ble_eq_true rfl, Nat.le_of_ble_eq_true rfl⟩ (wat_M E _) rfl rfl dL_law_1576 ⟨by show cs + mc + 0 + 0 ≤ 601024; omega, by show sl + ms + 0 + 0 ≤ 7293034; omega⟩ (Nat.le_of_ble_eq_true rfl) ?_
  rintro _ _ ⟨rfl, hy⟩
  obtain rfl := hy.symm
  dsimp only [Option.toList, List.cons_append, List.nil_append]
  refine g_iload h 5 dL_law_1579 rfl ?_
  refine g_icmp_eq h 1586 dL_law_1581 (by decide) (fun _ => ?_) (fun z => absurd hk z)
  refine g_iload h 5 dL_law_1586 rfl ?_
  have J : G p l e RM0 s m #[.ref b] below meth c Q E S0 7 (cs + mc) (sl + ms) y2 1603 [(0, .ref b), (1, .ref (aD E)), (2, .ref (aM E)), (3, .ref (aO E)), (4, .int (nI i)), (5, .int k), (6, .int r)] [] := by
    refine g_lv [0, 1, 2, 3, 4] rfl ?_
    refine g_goto h 1709 dL_law_1603 (by decide) ?_
    exact kk _ _ _ hn
  refine g_if_ne h 1603 dL_law_1588 (by decide) (fun _ => J) (fun hk0 => ?_)
  refine g_aload_n h 3 dL_law_1591 rfl rfl ?_
  refine g_iconst (v := nI 0) h dL_law_1592 (by decide) ?_
  refine g_lald0 h dL_law_1593 ?_
  refine g_iload h 6 dL_law_1594 rfl ?_
  have hO2 := hO hk0
  refine g_i2l h dL_law_1596 ?_
  refine g_lcmp h dL_law_1597 ?_
  rw [hO2, cmp_s]
  exact g_if_eq h 1603 dL_law_1598 (by decide) (fun _ => J) (fun q => absurd rfl q)
set_option maxRecDepth 100000 in
theorem law_24_writebacks (h : gO p s m #[.ref b] c cL_law 7 RL wsL_law E S0) {i t : Nat} (hx : LI x t cs sl) (ht : t < 512) (kk : ∀ (y : St) (cs' sl' : Nat), LI y (t + 1) cs' sl' → G p l e RM0 s m #[.ref b] below meth c Q E S0 7 cs' sl' y 1709 [(0, .ref b), (1, .ref (aD E)), (2, .ref (aM E)), (3, .ref (aO E)), (4, .int (nI i))] []) : G p l e RM0 s m #[.ref b] below meth c Q E S0 7 cs sl x 1606 [(0, .ref b), (1, .ref (aD E)), (2, .ref (aM E)), (3, .ref (aO E)), (4, .int (nI i))] [] := by
  obtain ⟨v, hV, he, hn, hok⟩ := op_writebacks hx ht
  obtain ⟨b1, b2⟩ := hx.le
  refine g_aload_n h 1 dL_law_1606 rfl rfl ?_
  refine g_callV (As := []) (C := RX5) h 0 (c_X5_writebacks l E x v [] hV) rfl gL_law_X5_writebacks rfl rfl rfl rfl (by decide +kernel) ⟨Nat.le_of_ble_eq_true rfl, Nat.le_of_ble_eq_true rfl⟩ (wat_D E _) rfl rfl dL_law_1607 ⟨by show cs + 0 ≤ 601024; omega, by show sl + 0 ≤ 7293034; omega⟩ (Nat.le_of_ble_eq_true rfl) ?_
  rintro _ _ ⟨rfl, hy⟩
  obtain rfl := hy.symm
  dsimp only [Option.toList, List.cons_append, List.nil_append]
  refine g_aload_n h 2 dL_law_1610 rfl rfl ?_
  refine g_callV (As := []) (C := RX6) h 0 (c_X6_writebacks l E x ) rfl gL_law_X6_writebacks rfl rfl rfl rfl (by decide +kernel) ⟨Nat.le_of_ble_eq_true rfl, Nat.le_of_ble_eq_true rfl⟩ (wat_M E _) rfl rfl dL_law_1611 ⟨by show cs + 0 + 0 ≤ 601024; omega, by show sl + 0 + 0 ≤ 7293034; omega⟩ (Nat.le_of_ble_eq_true rfl) ?_
  rintro _ _ ⟨rfl, hy⟩
  obtain rfl := hy.symm
  dsimp only [Option.toList, List.cons_append, List.nil_append]
  rw [he]
  refine g_icmp_eq h 1709 dL_law_1614 (by decide) (fun _ => ?_) (fun z => absurd rfl z)
  exact kk _ _ _ hn
set_option maxRecDepth 100000 in
theorem law_25_lateWritebacks (h : gO p s m #[.ref b] c cL_law 7 RL wsL_law E S0) {i t : Nat} (hx : LI x t cs sl) (ht : t < 512) (kk : ∀ (y : St) (cs' sl' : Nat), LI y (t + 1) cs' sl' → G p l e RM0 s m #[.ref b] below meth c Q E S0 7 cs' sl' y 1709 [(0, .ref b), (1, .ref (aD E)), (2, .ref (aM E)), (3, .ref (aO E)), (4, .int (nI i))] []) : G p l e RM0 s m #[.ref b] below meth c Q E S0 7 cs sl x 1619 [(0, .ref b), (1, .ref (aD E)), (2, .ref (aM E)), (3, .ref (aO E)), (4, .int (nI i))] [] := by
  obtain ⟨v, hV, he, hn, hok⟩ := op_lateWritebacks hx ht
  obtain ⟨b1, b2⟩ := hx.le
  refine g_aload_n h 1 dL_law_1619 rfl rfl ?_
  refine g_callV (As := []) (C := RX5) h 0 (c_X5_lateWritebacks l E x v [] hV) rfl gL_law_X5_lateWritebacks rfl rfl rfl rfl (by decide +kernel) ⟨Nat.le_of_ble_eq_true rfl, Nat.le_of_ble_eq_true rfl⟩ (wat_D E _) rfl rfl dL_law_1620 ⟨by show cs + 0 ≤ 601024; omega, by show sl + 0 ≤ 7293034; omega⟩ (Nat.le_of_ble_eq_true rfl) ?_
  rintro _ _ ⟨rfl, hy⟩
  obtain rfl := hy.symm
  dsimp only [Option.toList, List.cons_append, List.nil_append]
  refine g_aload_n h 2 dL_law_1623 rfl rfl ?_
  refine g_callV (As := []) (C := RX6) h 0 (c_X6_lateWritebacks l E x ) rfl gL_law_X6_lateWritebacks rfl rfl rfl rfl (by decide +kernel) ⟨Nat.le_of_ble_eq_true rfl, Nat.le_of_ble_eq_true rfl⟩ (wat_M E _) rfl rfl dL_law_1624 ⟨by show cs + 0 + 0 ≤ 601024; omega, by show sl + 0 + 0 ≤ 7293034; omega⟩ (Nat.le_of_ble_eq_true rfl) ?_
  rintro _ _ ⟨rfl, hy⟩
  obtain rfl := hy.symm
  dsimp only [Option.toList, List.cons_append, List.nil_append]
  rw [he]
  refine g_icmp_eq h 1709 dL_law_1627 (by decide) (fun _ => ?_) (fun z => absurd rfl z)
  exact kk _ _ _ hn
set_option maxRecDepth 100000 in
theorem law_26_isInOrder (hlt : l.stackTraces = false) (h : gO p s m #[.ref b] c cL_law 7 RL wsL_law E S0) (hX : va_X b L xs s s.heap) (hbl : b < s.heap.size) (hbA : ¬ gA E S0 s b) (hL : L < 2 ^ 31) {i t : Nat} (hi : i + 4 ≤ L) (hx : LI x t cs sl) (ht : t < 512) (kk : ∀ (y : St) (cs' sl' : Nat), LI y (t + 1) cs' sl' → G p l e RM0 s m #[.ref b] below meth c Q E S0 7 cs' sl' y 1709 [(0, .ref b), (1, .ref (aD E)), (2, .ref (aM E)), (3, .ref (aO E)), (4, .int (nI i))] []) : G p l e RM0 s m #[.ref b] below meth c Q E S0 7 cs sl x 1632 [(0, .ref b), (1, .ref (aD E)), (2, .ref (aM E)), (3, .ref (aO E)), (4, .int (nI i))] [] := by
  obtain ⟨k, r, mc, ms, rm, P1, P2, ⟨r1, r2, r3, r4⟩, ⟨b1, b2⟩, hCL, hCM, hF⟩ := op_isInOrder hlt (xs (i + 1)) x t cs sl hx ht
  refine g_aload_n h 1 dL_law_1632 rfl rfl ?_
  refine g_aload_n h 0 dL_law_1633 rfl rfl ?_
  refine g_iload h 4 dL_law_1634 rfl ?_
  refine g_iconst (v := nI 1) h dL_law_1636 (by decide) ?_
  refine g_iaddN h dL_law_1637 ?_
  refine g_sld h hX hbl hbA (by omega) hL dL_law_1638 ?_
  refine g_aload_n h 3 dL_law_1639 rfl rfl ?_
  refine g_callSW (As := [.ref (aD E), .int (xs (i + 1)), .ref (aO E)]) h 3 hCL rfl gL_law_L_isInOrder rfl rfl rfl rfl (by decide +kernel) ⟨Nat.le_of_ble_eq_true rfl, Nat.le_of_ble_eq_true rfl⟩ dL_law_1640 ⟨by show cs + mc ≤ 601024; omega, by show sl + ms ≤ 7293034; omega⟩ (Nat.le_of_ble_eq_true rfl) ?_
  rintro _ y1 ⟨rfl, h1⟩
  dsimp only [Option.toList, List.cons_append, List.nil_append]
  refine g_istore (lv' := [(0, _), (1, _), (2, _), (3, _), (4, _), (5, .int k)]) h [1, 2, 3, 4, 5, 0] dL_law_1643 (by decide) rfl ?_
  refine g_aload_n h 2 dL_law_1645 rfl rfl ?_
  refine g_aload_n h 0 dL_law_1646 rfl rfl ?_
  refine g_iload h 4 dL_law_1647 rfl ?_
  refine g_iconst (v := nI 1) h dL_law_1649 (by decide) ?_
  refine g_iaddN h dL_law_1650 ?_
  refine g_sld h hX hbl hbA (by omega) hL dL_law_1651 ?_
  refine g_callV (As := [.int (xs (i + 1))]) (C := RX6) h 1 (hCM y1 h1) rfl gL_law_X6_isInOrder rfl r1 r2 rfl (by decide +kernel) ⟨by show rm.frames + 1 ≤ 16; omega, by show 8 + (_ + 11) + rm.locals ≤ 626; omega⟩ (wat_M E _) rfl rfl dL_law_1652 ⟨by show cs + mc + 0 ≤ 601024; omega, by show sl + ms + 0 ≤ 7293034; omega⟩ (Nat.le_of_ble_eq_true rfl) ?_
  rintro _ y2 ⟨rfl, h2⟩
  obtain ⟨hk, hO, hn⟩ := hF y2 h2
  dsimp only [Option.toList, List.cons_append, List.nil_append]
  refine g_istore (lv' := [(0, _), (1, _), (2, _), (3, _), (4, _), (5, .int k), (6, .int r)]) h [1, 2, 3, 4, 5, 6, 0] dL_law_1655 (by decide) rfl ?_
  refine g_aload_n h 2 dL_law_1657 rfl rfl ?_
  refine g_callV (As := []) (C := RX6) h 0 (c_X6_thrown l E y2) rfl gL_law_X6_thrown rfl rfl rfl rfl (by decide +kernel) ⟨Nat.le_of_ble_eq_true rfl, Nat.le_of_ble_eq_true rfl⟩ (wat_M E _) rfl rfl dL_law_1658 ⟨by show cs + mc + 0 + 0 ≤ 601024; omega, by show sl + ms + 0 + 0 ≤ 7293034; omega⟩ (Nat.le_of_ble_eq_true rfl) ?_
  rintro _ _ ⟨rfl, hy⟩
  obtain rfl := hy.symm
  dsimp only [Option.toList, List.cons_append, List.nil_append]
  refine g_iload h 5 dL_law_1661 rfl ?_
  refine g_icmp_eq h 1668 dL_law_1663 (by decide) (fun _ => ?_) (fun z => absurd hk z)
  refine g_iload h 5 dL_law_1668 rfl ?_
  have J : G p l e RM0 s m #[.ref b] below meth c Q E S0 7 (cs + mc) (sl + ms) y2 1692 [(0, .ref b), (1, .ref (aD E)), (2, .ref (aM E)), (3, .ref (aO E)), (4, .int (nI i)), (5, .int k), (6, .int r)] [] := by
    refine g_lv [0, 1, 2, 3, 4] rfl ?_
    refine g_goto h 1709 dL_law_1692 (by decide) ?_
    exact kk _ _ _ hn
  refine g_if_ne h 1692 dL_law_1670 (by decide) (fun _ => J) (fun hk0 => ?_)
  refine g_aload_n h 3 dL_law_1673 rfl rfl ?_
  refine g_iconst (v := nI 0) h dL_law_1674 (by decide) ?_
  refine g_lald0 h dL_law_1675 ?_
  refine g_iload h 6 dL_law_1676 rfl ?_
  have hO2 := hO hk0
  dsimp only at hO2
  refine g_if_eq h 1685 dL_law_1678 (by decide) (fun z => ?_) (fun z => ?_)
  · rw [if_pos z] at hO2
    refine g_lconst (v := 0) h dL_law_1685 (by decide) ?_
    refine g_lcmp h dL_law_1686 ?_
    rw [hO2, cmp_s]
    exact g_if_eq h 1692 dL_law_1687 (by decide) (fun _ => J) (fun q => absurd rfl q)
  · rw [if_neg z] at hO2
    refine g_lconst (v := 1) h dL_law_1681 (by decide) ?_
    refine g_goto h 1686 dL_law_1682 (by decide) ?_
    refine g_lcmp h dL_law_1686 ?_
    rw [hO2, cmp_s]
    exact g_if_eq h 1692 dL_law_1687 (by decide) (fun _ => J) (fun q => absurd rfl q)
set_option maxRecDepth 100000 in
theorem law_27_digest (h : gO p s m #[.ref b] c cL_law 7 RL wsL_law E S0) {i t : Nat} (hx : LI x t cs sl) (ht : t < 512) (kk : ∀ (y : St) (cs' sl' : Nat), LI y (t + 1) cs' sl' → G p l e RM0 s m #[.ref b] below meth c Q E S0 7 cs' sl' y 1709 [(0, .ref b), (1, .ref (aD E)), (2, .ref (aM E)), (3, .ref (aO E)), (4, .int (nI i))] []) : G p l e RM0 s m #[.ref b] below meth c Q E S0 7 cs sl x 1695 [(0, .ref b), (1, .ref (aD E)), (2, .ref (aM E)), (3, .ref (aO E)), (4, .int (nI i))] [] := by
  obtain ⟨v, hV, he, hn, hok⟩ := op_digest hx ht
  obtain ⟨b1, b2⟩ := hx.le
  refine g_aload_n h 1 dL_law_1695 rfl rfl ?_
  refine g_callV (As := []) (C := RX5) h 0 (c_X5_digest l E x v [] hV) rfl gL_law_X5_digest rfl rfl rfl rfl (by decide +kernel) ⟨Nat.le_of_ble_eq_true rfl, Nat.le_of_ble_eq_true rfl⟩ (wat_D E _) rfl rfl dL_law_1696 ⟨by show cs + 0 ≤ 601024; omega, by show sl + 0 ≤ 7293034; omega⟩ (Nat.le_of_ble_eq_true rfl) ?_
  rintro _ _ ⟨rfl, hy⟩
  obtain rfl := hy.symm
  dsimp only [Option.toList, List.cons_append, List.nil_append]
  refine g_aload_n h 2 dL_law_1699 rfl rfl ?_
  refine g_callV (As := []) (C := RX6) h 0 (c_X6_digest l E x hok) rfl gL_law_X6_digest rfl rfl rfl rfl (by decide +kernel) ⟨Nat.le_of_ble_eq_true rfl, Nat.le_of_ble_eq_true rfl⟩ (wat_M E _) rfl rfl dL_law_1700 ⟨by show cs + 0 + 0 ≤ 601024; omega, by show sl + 0 + 0 ≤ 7293034; omega⟩ (Nat.le_of_ble_eq_true rfl) ?_
  rintro _ _ ⟨rfl, hy⟩
  obtain rfl := hy.symm
  dsimp only [Option.toList, List.cons_append, List.nil_append]
  rw [he]
  refine g_lcmp h dL_law_1703 ?_
  rw [cmp_s]
  refine g_if_eq h 1709 dL_law_1704 (by decide) (fun _ => ?_) (fun z => absurd rfl z)
  exact kk _ _ _ hn
end LAW
