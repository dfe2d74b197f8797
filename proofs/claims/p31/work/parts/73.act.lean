/-! ===== a step of the law: what it does ===== -/
theorem LW0.sv {v v' : Vw} {A : St} {N : Nat → Int} (h : LW0 v A N) (e : v = v') : LW0 v' A N := e ▸ h
theorem upd_ne' {g : Nat → Int32} {a b : Nat} {w : Int32} (h : b ≠ a) : upd g a w b = g b := upd_ne h
section LAW
variable {p : Program} {l : Launch} {e : Env} {s : State} {m : MethodId} {below : List Frame} {meth : Method} {c : Code} {Q : State → Prop} {E : gE} {S0 x : St} {b L cs sl t : Nat} {xs : Nat → Int32} {v : Vw} {A : St} {N : Nat → Int}
set_option maxRecDepth 100000 in
set_option maxHeartbeats 1000000 in
theorem law_read (h : gO p s m #[.ref b] c cL_law 14 RL wsL_law E S0) (hlt : l.stackTraces = false) (hS : k_LS x v A N) (hL : LW0 v A N) (hc : cs ≤ 300000) (hsl : sl ≤ 3000000) {xx : Int32} {ca li wv wh : Nat} (hca : ca < 4) (hli : li < 3) (hwv : wv < 10000) (hwh : wh < 9) (kk : ∀ (y : St) (w : Vw) (B : St) (M : Nat → Int) (cs' sl' : Nat), k_LS y w B M → (LW0 w B M ∨ PND w B M 0) → cs' ≤ cs + 590 → sl' ≤ sl + 30385 → G p l e RM0 s m #[.ref b] below meth c Q E S0 14 cs' sl' y 323 [(0, .ref b), (1, .ref (aD E)), (2, .ref (aY E 0)), (3, .ref (aY E 1)), (4, .ref (aY E 2)), (5, .ref (aY E 3)), (6, .int (nI t))] []) (hw : wh < 7) : G p l e RM0 s m #[.ref b] below meth c Q E S0 14 cs sl x 197 [(0, .ref b), (1, .ref (aD E)), (2, .ref (aY E 0)), (3, .ref (aY E 1)), (4, .ref (aY E 2)), (5, .ref (aY E 3)), (6, .int (nI t)), (7, .int xx), (8, .int (nI ca)), (9, .int (nI li)), (10, .int (nI wv)), (11, .int (nI wh))] [] := by
  have hCI := hS.2.ci
  have hwl := hS.2.way
  refine g_iload h 11 dL_law_197 rfl ?_
  refine g_bipush (v := nI 7) h dL_law_199 (by decide +kernel) ?_
  refine g_icmp_geN h 251 dL_law_201 (by decide) (by omega) (by omega) (fun z => absurd z (by omega)) (fun _ => ?_)
  refine g_aload_n h 1 dL_law_204 rfl rfl ?_
  refine g_iload h 8 dL_law_205 rfl ?_
  refine g_iload h 9 dL_law_207 rfl ?_
  by_cases ha : acc v ca li
  · obtain ⟨s1, s2⟩ := read_v hS.2 hca (by omega) ha
    refine g_callSW (As := [.ref (aD E), .int (nI ca), .int (nI li)]) h 3 (w_read l E _ hlt v hS.1 ca li hca (by omega) (hCI.1 ca hca) (hCI.2.1 ca 0 hca (by decide)) ha.1 ha.2.1 ha.2.2 (by omega)) rfl gL_law_L_read rfl rfl rfl rfl (by decide +kernel) ⟨Nat.le_of_ble_eq_true rfl, Nat.le_of_ble_eq_true rfl⟩ dL_law_209 ⟨by show _ + _ ≤ 879821; omega, by show _ + _ ≤ 6462004; omega⟩ (Nat.le_of_ble_eq_true rfl) ?_
    rintro _ y ⟨rfl, hV⟩
    dsimp only [Option.toList, List.cons_append, List.nil_append]
    have hT : k_LS y (s_X5_read v ca li) A N := ⟨hV, s1⟩
    refine g_istore (lv' := [(0, _), (1, _), (2, _), (3, _), (4, _), (5, _), (6, _), (7, _), (8, _), (9, _), (10, _), (11, _), (12, _)]) h [1, 2, 3, 4, 5, 6, 7, 8, 9, 10, 11, 12, 0] dL_law_212 (by decide) rfl ?_
    refine g_iload h 12 dL_law_214 rfl ?_
    rcases s2 with ⟨r1, r2, r3⟩ | ⟨r1, r3⟩
    · refine g_if_lt h 230 dL_law_216 (by decide) (fun z => absurd (Int32.lt_iff_toInt_lt.mp z) (by rw [r1]; show ¬ N li < 0; omega)) (fun _ => ?_)
      refine g_iload h 12 dL_law_219 rfl ?_
      refine g_aload_n h 2 dL_law_221 rfl rfl ?_
      refine g_iload h 9 dL_law_222 rfl ?_
      refine g_iald h (wat_Y0 E _) (show li < 4 by omega) (by decide) dL_law_224 ?_
      refine g_icmp_eq h 230 dL_law_225 (by decide) (fun _ => ?_) (fun z => absurd (i32_eq.mpr (by rw [hT.am 0, hL.2 li hli]; exact r1)) z)
      refine g_iload h 12 dL_law_230 rfl ?_
      refine g_iconst (v := -1) h dL_law_232 (by decide) ?_
      refine g_icmp_ne h 248 dL_law_233 (by decide) (fun _ => ?_) (fun z => False.elim (by rw [z] at r1; have := tm1; omega))
      refine g_goto h 323 dL_law_248 (by decide) ?_
      exact g_lv [0, 1, 2, 3, 4, 5, 6] rfl (kk y _ A N _ _ hT (Or.inl (hL.eq r3)) (by omega) (by omega))
    · rw [r1]
      refine g_if_lt h 230 dL_law_216 (by decide) (fun _ => ?_) (fun z => absurd (show (-1 : Int32) < 0 by decide) z)
      refine g_iload h 12 dL_law_230 rfl ?_
      refine g_iconst (v := -1) h dL_law_232 (by decide) ?_
      refine g_icmp_ne h 248 dL_law_233 (by decide) (fun z => absurd rfl z) (fun _ => ?_)
      refine g_aload_n h 3 dL_law_236 rfl rfl ?_
      refine g_iload h 8 dL_law_237 rfl ?_
      refine g_iload h 9 dL_law_239 rfl ?_
      refine g_iast h (ws_Y1 E _ _) hca (by decide) dL_law_241 ?_
      refine g_aload h 5 dL_law_242 rfl ?_
      refine g_iload h 8 dL_law_244 rfl ?_
      refine g_iconst (v := nI 0) h dL_law_246 (by decide) ?_
      refine g_zast h (ws_Y3 E _ _) hca (by decide) dL_law_247 ?_
      refine g_goto h 323 dL_law_248 (by decide) ?_
      refine g_lv [0, 1, 2, 3, 4, 5, 6] rfl (kk _ _ _ N _ _ hT.set.set (Or.inl (LW0.vam (LW0.vam (lw_open (i := ca) (j := li) hL r3 hli ?_ ?_ ?_ ?_ ?_ ?_)))) (by omega) (by omega))
      · rw [AM_ne (by decide), AM_ne (by decide)]
      · rw [AM_ne (by decide), AM_eq, hT.am 1]
      · intro k hk
        rw [AM_eq, updA, if_neg hk, AM_ne (by decide), hT.am 3]
      · intro k hk
        rw [AM_ne (by decide), AM_ne (by decide)]
      · rw [AM_eq, updA, if_pos rfl]
        rfl
      · intro z
        exact absurd z (by decide)
  · have hac : ¬ (v.x.FR ca 0 = -1 ∧ v.x.AC ca 2 li = -1 ∧ (nI (r_X0_needsWayFor v ca li) = 0 ∨ nI (r_X0_lacksVictimRoomFor v ca (nat (v.x.AC ca 3 0))) = 0)) := ha
    refine g_callSW (As := [.ref (aD E), .int (nI ca), .int (nI li)]) h 3 (w_read_s l E _ hlt v hS.1 ca li hca (by omega) (hCI.2.1 ca 0 hca (by decide)) hac) rfl gL_law_L_read rfl rfl rfl rfl (by decide +kernel) ⟨Nat.le_of_ble_eq_true rfl, Nat.le_of_ble_eq_true rfl⟩ dL_law_209 ⟨by show _ + _ ≤ 879821; omega, by show _ + _ ≤ 6462004; omega⟩ (Nat.le_of_ble_eq_true rfl) ?_
    rintro _ _ ⟨rfl, hy⟩
    obtain rfl := hy.symm
    dsimp only [Option.toList, List.cons_append, List.nil_append]
    refine g_istore (lv' := [(0, _), (1, _), (2, _), (3, _), (4, _), (5, _), (6, _), (7, _), (8, _), (9, _), (10, _), (11, _), (12, _)]) h [1, 2, 3, 4, 5, 6, 7, 8, 9, 10, 11, 12, 0] dL_law_212 (by decide) rfl ?_
    refine g_iload h 12 dL_law_214 rfl ?_
    refine g_if_lt h 230 dL_law_216 (by decide) (fun _ => ?_) (fun z => absurd (show (-2 : Int32) < 0 by decide) z)
    refine g_iload h 12 dL_law_230 rfl ?_
    refine g_iconst (v := -1) h dL_law_232 (by decide) ?_
    refine g_icmp_ne h 248 dL_law_233 (by decide) (fun _ => ?_) (fun z => absurd z (by decide))
    refine g_goto h 323 dL_law_248 (by decide) ?_
    exact g_lv [0, 1, 2, 3, 4, 5, 6] rfl (kk x v A N _ _ hS (Or.inl hL) (by omega) (by omega))
set_option maxRecDepth 100000 in
set_option maxHeartbeats 1000000 in
theorem law_write (h : gO p s m #[.ref b] c cL_law 14 RL wsL_law E S0) (hlt : l.stackTraces = false) (hS : k_LS x v A N) (hL : LW0 v A N) (hc : cs ≤ 300000) (hsl : sl ≤ 3000000) {xx : Int32} {ca li wv wh : Nat} (hca : ca < 4) (hli : li < 3) (hwv : wv < 10000) (hwh : wh < 9) (kk : ∀ (y : St) (w : Vw) (B : St) (M : Nat → Int) (cs' sl' : Nat), k_LS y w B M → (LW0 w B M ∨ PND w B M 0) → cs' ≤ cs + 590 → sl' ≤ sl + 30385 → G p l e RM0 s m #[.ref b] below meth c Q E S0 14 cs' sl' y 323 [(0, .ref b), (1, .ref (aD E)), (2, .ref (aY E 0)), (3, .ref (aY E 1)), (4, .ref (aY E 2)), (5, .ref (aY E 3)), (6, .int (nI t))] []) (hw : wh = 7) : G p l e RM0 s m #[.ref b] below meth c Q E S0 14 cs sl x 251 [(0, .ref b), (1, .ref (aD E)), (2, .ref (aY E 0)), (3, .ref (aY E 1)), (4, .ref (aY E 2)), (5, .ref (aY E 3)), (6, .int (nI t)), (7, .int xx), (8, .int (nI ca)), (9, .int (nI li)), (10, .int (nI wv)), (11, .int (nI wh))] [] := by
  have hCI := hS.2.ci
  have hwl := hS.2.way
  refine g_iload h 11 dL_law_251 rfl ?_
  refine g_bipush (v := nI 7) h dL_law_253 (by decide +kernel) ?_
  refine g_icmp_neN h 309 dL_law_255 (by decide) (by omega) (by omega) (fun z => absurd hw z) (fun _ => ?_)
  refine g_aload_n h 1 dL_law_258 rfl rfl ?_
  refine g_iload h 8 dL_law_259 rfl ?_
  refine g_iload h 9 dL_law_261 rfl ?_
  refine g_iload h 10 dL_law_263 rfl ?_
  by_cases ha : acc v ca li
  · rcases write_v (w := wv) hS.2 hca (show li < 16 by omega) (by omega) ha with ⟨r1, s1, r3⟩ | ⟨r1, s1, r3⟩
    · skip
      refine g_callSW (As := [.ref (aD E), .int (nI ca), .int (nI li), .int (nI wv)]) h 4 (w_write l E _ hlt v hS.1 ca li wv hca (by omega) (by omega) (hCI.1 ca hca) (hCI.2.1 ca 0 hca (by decide)) ha.1 ha.2.1 ha.2.2 (by omega)) rfl gL_law_L_write rfl rfl rfl rfl (by decide +kernel) ⟨Nat.le_of_ble_eq_true rfl, Nat.le_of_ble_eq_true rfl⟩ dL_law_265 ⟨by show _ + _ ≤ 879821; omega, by show _ + _ ≤ 6462004; omega⟩ (Nat.le_of_ble_eq_true rfl) ?_
      rintro _ y ⟨rfl, hV⟩
      dsimp only [Option.toList, List.cons_append, List.nil_append]
      have hT : k_LS y (s_X5_write v ca li wv) A (vN N li (wv : Int)) := ⟨hV, s1⟩
      rw [r1]
      refine g_istore (lv' := [(0, _), (1, _), (2, _), (3, _), (4, _), (5, _), (6, _), (7, _), (8, _), (9, _), (10, _), (11, _), (12, _)]) h [1, 2, 3, 4, 5, 6, 7, 8, 9, 10, 11, 12, 0] dL_law_268 (by decide) rfl ?_
      refine g_iload h 12 dL_law_270 rfl ?_
      refine g_iconst (v := nI 1) h dL_law_272 (by decide) ?_
      refine g_icmp_ne h 282 dL_law_273 (by decide) (fun z => absurd rfl z) (fun _ => ?_)
      refine g_aload_n h 2 dL_law_276 rfl rfl ?_
      refine g_iload h 9 dL_law_277 rfl ?_
      refine g_iload h 10 dL_law_279 rfl ?_
      refine g_iast h (ws_Y0 E _ _) (show li < 4 by omega) (by decide) dL_law_281 ?_
      refine g_iload h 12 dL_law_282 rfl ?_
      refine g_if_ne h 306 dL_law_284 (by decide) (fun _ => ?_) (fun z => absurd z (by decide))
      refine g_goto h 323 dL_law_306 (by decide) ?_
      refine g_lv [0, 1, 2, 3, 4, 5, 6] rfl (kk _ _ _ _ _ _ hT.set (Or.inl (LW0.vam (lw_hit hL r3 (by omega) ?_ ?_ ?_ ?_))) (by omega) (by omega))
      · rw [AM_eq, hT.am 0]
      · exact AM_ne (by decide)
      · exact AM_ne (by decide)
      · exact AM_ne (by decide)
    · skip
      refine g_callSW (As := [.ref (aD E), .int (nI ca), .int (nI li), .int (nI wv)]) h 4 (w_write l E _ hlt v hS.1 ca li wv hca (by omega) (by omega) (hCI.1 ca hca) (hCI.2.1 ca 0 hca (by decide)) ha.1 ha.2.1 ha.2.2 (by omega)) rfl gL_law_L_write rfl rfl rfl rfl (by decide +kernel) ⟨Nat.le_of_ble_eq_true rfl, Nat.le_of_ble_eq_true rfl⟩ dL_law_265 ⟨by show _ + _ ≤ 879821; omega, by show _ + _ ≤ 6462004; omega⟩ (Nat.le_of_ble_eq_true rfl) ?_
      rintro _ y ⟨rfl, hV⟩
      dsimp only [Option.toList, List.cons_append, List.nil_append]
      have hT : k_LS y (s_X5_write v ca li wv) A N := ⟨hV, s1⟩
      rw [r1]
      refine g_istore (lv' := [(0, _), (1, _), (2, _), (3, _), (4, _), (5, _), (6, _), (7, _), (8, _), (9, _), (10, _), (11, _), (12, _)]) h [1, 2, 3, 4, 5, 6, 7, 8, 9, 10, 11, 12, 0] dL_law_268 (by decide) rfl ?_
      refine g_iload h 12 dL_law_270 rfl ?_
      refine g_iconst (v := nI 1) h dL_law_272 (by decide) ?_
      refine g_icmp_ne h 282 dL_law_273 (by decide) (fun _ => ?_) (fun z => absurd z (by decide))
      refine g_iload h 12 dL_law_282 rfl ?_
      refine g_if_ne h 306 dL_law_284 (by decide) (fun z => absurd rfl z) (fun _ => ?_)
      refine g_aload_n h 3 dL_law_287 rfl rfl ?_
      refine g_iload h 8 dL_law_288 rfl ?_
      refine g_iload h 9 dL_law_290 rfl ?_
      refine g_iast h (ws_Y1 E _ _) hca (by decide) dL_law_292 ?_
      refine g_aload h 5 dL_law_293 rfl ?_
      refine g_iload h 8 dL_law_295 rfl ?_
      refine g_iconst (v := nI 1) h dL_law_297 (by decide) ?_
      refine g_zast h (ws_Y3 E _ _) hca (by decide) dL_law_298 ?_
      refine g_aload h 4 dL_law_299 rfl ?_
      refine g_iload h 8 dL_law_301 rfl ?_
      refine g_iload h 10 dL_law_303 rfl ?_
      refine g_iast h (ws_Y2 E _ _) hca (by decide) dL_law_305 ?_
      refine g_goto h 323 dL_law_306 (by decide) ?_
      refine g_lv [0, 1, 2, 3, 4, 5, 6] rfl (kk _ _ _ N _ _ hT.set.set.set (Or.inl (LW0.vam (LW0.vam (LW0.vam (lw_open (i := ca) (j := li) hL r3 hli ?_ ?_ ?_ ?_ ?_ ?_))))) (by omega) (by omega))
      · rw [AM_ne (by decide), AM_ne (by decide), AM_ne (by decide)]
      · rw [AM_ne (by decide), AM_ne (by decide), AM_eq, hT.am 1]
      · intro k hk
        rw [AM_ne (by decide), AM_eq, updA, if_neg hk, AM_ne (by decide), hT.am 3]
      · intro k hk
        rw [AM_eq, updA, if_neg hk, AM_ne (by decide), AM_ne (by decide), hT.am 2]
      · rw [AM_ne (by decide), AM_eq, updA, if_pos rfl]
        rfl
      · intro _
        rw [AM_eq, updA, if_pos rfl, nI_toInt (by omega)]
  · have hac : ¬ (v.x.FR ca 0 = -1 ∧ v.x.AC ca 2 li = -1 ∧ (nI (r_X0_needsWayFor v ca li) = 0 ∨ nI (r_X0_lacksVictimRoomFor v ca (nat (v.x.AC ca 3 0))) = 0)) := ha
    refine g_callSW (As := [.ref (aD E), .int (nI ca), .int (nI li), .int (nI wv)]) h 4 (w_write_s l E _ hlt v hS.1 ca li wv hca (by omega) (by omega) (hCI.2.1 ca 0 hca (by decide)) hac) rfl gL_law_L_write rfl rfl rfl rfl (by decide +kernel) ⟨Nat.le_of_ble_eq_true rfl, Nat.le_of_ble_eq_true rfl⟩ dL_law_265 ⟨by show _ + _ ≤ 879821; omega, by show _ + _ ≤ 6462004; omega⟩ (Nat.le_of_ble_eq_true rfl) ?_
    rintro _ _ ⟨rfl, hy⟩
    obtain rfl := hy.symm
    dsimp only [Option.toList, List.cons_append, List.nil_append]
    refine g_istore (lv' := [(0, _), (1, _), (2, _), (3, _), (4, _), (5, _), (6, _), (7, _), (8, _), (9, _), (10, _), (11, _), (12, _)]) h [1, 2, 3, 4, 5, 6, 7, 8, 9, 10, 11, 12, 0] dL_law_268 (by decide) rfl ?_
    refine g_iload h 12 dL_law_270 rfl ?_
    refine g_iconst (v := nI 1) h dL_law_272 (by decide) ?_
    refine g_icmp_ne h 282 dL_law_273 (by decide) (fun _ => ?_) (fun z => absurd z (by decide))
    refine g_iload h 12 dL_law_282 rfl ?_
    refine g_if_ne h 306 dL_law_284 (by decide) (fun _ => ?_) (fun z => absurd z (by decide))
    refine g_goto h 323 dL_law_306 (by decide) ?_
    exact g_lv [0, 1, 2, 3, 4, 5, 6] rfl (kk x v A N _ _ hS (Or.inl hL) (by omega) (by omega))
set_option maxRecDepth 100000 in
set_option maxHeartbeats 1000000 in
theorem law_evict (h : gO p s m #[.ref b] c cL_law 14 RL wsL_law E S0) (hlt : l.stackTraces = false) (hS : k_LS x v A N) (hL : LW0 v A N) (hc : cs ≤ 300000) (hsl : sl ≤ 3000000) {xx : Int32} {ca li wv wh : Nat} (hca : ca < 4) (hli : li < 3) (hwv : wv < 10000) (hwh : wh < 9) (kk : ∀ (y : St) (w : Vw) (B : St) (M : Nat → Int) (cs' sl' : Nat), k_LS y w B M → (LW0 w B M ∨ PND w B M 0) → cs' ≤ cs + 590 → sl' ≤ sl + 30385 → G p l e RM0 s m #[.ref b] below meth c Q E S0 14 cs' sl' y 323 [(0, .ref b), (1, .ref (aD E)), (2, .ref (aY E 0)), (3, .ref (aY E 1)), (4, .ref (aY E 2)), (5, .ref (aY E 3)), (6, .int (nI t))] []) (hw : wh = 8) : G p l e RM0 s m #[.ref b] below meth c Q E S0 14 cs sl x 251 [(0, .ref b), (1, .ref (aD E)), (2, .ref (aY E 0)), (3, .ref (aY E 1)), (4, .ref (aY E 2)), (5, .ref (aY E 3)), (6, .int (nI t)), (7, .int xx), (8, .int (nI ca)), (9, .int (nI li)), (10, .int (nI wv)), (11, .int (nI wh))] [] := by
  have hCI := hS.2.ci
  have hwl := hS.2.way
  refine g_iload h 11 dL_law_251 rfl ?_
  refine g_bipush (v := nI 7) h dL_law_253 (by decide +kernel) ?_
  refine g_icmp_neN h 309 dL_law_255 (by decide) (by omega) (by omega) (fun _ => ?_) (fun z => absurd z (by omega))
  refine g_aload_n h 1 dL_law_309 rfl rfl ?_
  refine g_iload h 8 dL_law_310 rfl ?_
  refine g_iload h 9 dL_law_312 rfl ?_
  by_cases h0 : nI (r_X0_holds v ca li) = 0
  · skip
    refine g_callSW (As := [.ref (aD E), .int (nI ca), .int (nI li)]) h 3 (w_evict_t l E _ hlt v hS.1 ca li hca (by omega) h0) rfl gL_law_L_evict rfl rfl rfl rfl (by decide +kernel) ⟨Nat.le_of_ble_eq_true rfl, Nat.le_of_ble_eq_true rfl⟩ dL_law_314 ⟨by show _ + _ ≤ 879821; omega, by show _ + _ ≤ 6462004; omega⟩ (Nat.le_of_ble_eq_true rfl) ?_
    rintro _ _ ⟨rfl, hy⟩
    obtain rfl := hy.symm
    dsimp only [Option.toList, List.cons_append, List.nil_append]
    refine g_iconst (v := nI 3) h dL_law_317 (by decide) ?_
    refine g_icmp_le h 323 dL_law_318 (by decide) (fun _ => ?_) (fun z => absurd (show (-1 : Int32) ≤ nI 3 by decide) z)
    exact g_lv [0, 1, 2, 3, 4, 5, 6] rfl (kk x v A N _ _ hS (Or.inl hL) (by omega) (by omega))
  · by_cases he : ¬ v.x.FR ca 0 = nI li ∧ nI (r_X0_lacksVictimRoomFor v ca li) = 0
    · obtain ⟨s1, r1, r3⟩ := evict_v hS.2 hca (show li < 16 by omega) h0 he.1 he.2
      refine g_callSW (As := [.ref (aD E), .int (nI ca), .int (nI li)]) h 3 (w_evict l E _ hlt v hS.1 ca li hca (by omega) (hCI.1 ca hca) h0 he.1 he.2 (by omega)) rfl gL_law_L_evict rfl rfl rfl rfl (by decide +kernel) ⟨Nat.le_of_ble_eq_true rfl, Nat.le_of_ble_eq_true rfl⟩ dL_law_314 ⟨by show _ + _ ≤ 879821; omega, by show _ + _ ≤ 6462004; omega⟩ (Nat.le_of_ble_eq_true rfl) ?_
      rintro _ y ⟨rfl, hV⟩
      dsimp only [Option.toList, List.cons_append, List.nil_append]
      refine g_iconst (v := nI 3) h dL_law_317 (by decide) ?_
      refine g_icmp_le h 323 dL_law_318 (by decide) (fun _ => ?_) (fun z => absurd (r1) z)
      exact g_lv [0, 1, 2, 3, 4, 5, 6] rfl (kk y _ A N _ _ ⟨hV, s1⟩ (Or.inl (hL.eq r3)) (by omega) (by omega))
    · skip
      refine g_callSW (As := [.ref (aD E), .int (nI ca), .int (nI li)]) h 3 (w_evict_s l E _ hlt v hS.1 ca li hca (by omega) h0 he) rfl gL_law_L_evict rfl rfl rfl rfl (by decide +kernel) ⟨Nat.le_of_ble_eq_true rfl, Nat.le_of_ble_eq_true rfl⟩ dL_law_314 ⟨by show _ + _ ≤ 879821; omega, by show _ + _ ≤ 6462004; omega⟩ (Nat.le_of_ble_eq_true rfl) ?_
      rintro _ _ ⟨rfl, hy⟩
      obtain rfl := hy.symm
      dsimp only [Option.toList, List.cons_append, List.nil_append]
      refine g_iconst (v := nI 3) h dL_law_317 (by decide) ?_
      refine g_icmp_le h 323 dL_law_318 (by decide) (fun _ => ?_) (fun z => absurd (show (-2 : Int32) ≤ nI 3 by decide) z)
      exact g_lv [0, 1, 2, 3, 4, 5, 6] rfl (kk x v A N _ _ hS (Or.inl hL) (by omega) (by omega))
set_option maxRecDepth 100000 in
set_option maxHeartbeats 1000000 in
theorem law_rwe (h : gO p s m #[.ref b] c cL_law 14 RL wsL_law E S0) (hlt : l.stackTraces = false) (hS : k_LS x v A N) (hL : LW0 v A N) (hc : cs ≤ 300000) (hsl : sl ≤ 3000000) {xx : Int32} {ca li wv wh : Nat} (hca : ca < 4) (hli : li < 3) (hwv : wv < 10000) (hwh : wh < 9) (kk : ∀ (y : St) (w : Vw) (B : St) (M : Nat → Int) (cs' sl' : Nat), k_LS y w B M → (LW0 w B M ∨ PND w B M 0) → cs' ≤ cs + 590 → sl' ≤ sl + 30385 → G p l e RM0 s m #[.ref b] below meth c Q E S0 14 cs' sl' y 323 [(0, .ref b), (1, .ref (aD E)), (2, .ref (aY E 0)), (3, .ref (aY E 1)), (4, .ref (aY E 2)), (5, .ref (aY E 3)), (6, .int (nI t))] []) : G p l e RM0 s m #[.ref b] below meth c Q E S0 14 cs sl x 197 [(0, .ref b), (1, .ref (aD E)), (2, .ref (aY E 0)), (3, .ref (aY E 1)), (4, .ref (aY E 2)), (5, .ref (aY E 3)), (6, .int (nI t)), (7, .int xx), (8, .int (nI ca)), (9, .int (nI li)), (10, .int (nI wv)), (11, .int (nI wh))] [] := by
  by_cases hw : wh < 7
  · exact law_read h hlt hS hL hc hsl hca hli hwv hwh kk hw
  refine g_iload h 11 dL_law_197 rfl ?_
  refine g_bipush (v := nI 7) h dL_law_199 (by decide +kernel) ?_
  refine g_icmp_geN h 251 dL_law_201 (by decide) (by omega) (by omega) (fun _ => ?_) (fun z => absurd (by omega) z)
  by_cases hw7 : wh = 7
  · exact law_write h hlt hS hL hc hsl hca hli hwv hwh kk hw7
  · exact law_evict h hlt hS hL hc hsl hca hli hwv hwh kk (by omega)
set_option maxRecDepth 100000 in
set_option maxHeartbeats 1000000 in
theorem law_act (h : gO p s m #[.ref b] c cL_law 14 RL wsL_law E S0) (hlt : l.stackTraces = false) (hS : k_LS x v A N) (hL : LW0 v A N) (hc : cs ≤ 300000) (hsl : sl ≤ 3000000) {xx : Int32} {ca li wv wh : Nat} (hca : ca < 4) (hli : li < 3) (hwv : wv < 10000) (hwh : wh < 9) (kk : ∀ (y : St) (w : Vw) (B : St) (M : Nat → Int) (cs' sl' : Nat), k_LS y w B M → (LW0 w B M ∨ PND w B M 0) → cs' ≤ cs + 590 → sl' ≤ sl + 30385 → G p l e RM0 s m #[.ref b] below meth c Q E S0 14 cs' sl' y 323 [(0, .ref b), (1, .ref (aD E)), (2, .ref (aY E 0)), (3, .ref (aY E 1)), (4, .ref (aY E 2)), (5, .ref (aY E 3)), (6, .int (nI t))] []) : G p l e RM0 s m #[.ref b] below meth c Q E S0 14 cs sl x 163 [(0, .ref b), (1, .ref (aD E)), (2, .ref (aY E 0)), (3, .ref (aY E 1)), (4, .ref (aY E 2)), (5, .ref (aY E 3)), (6, .int (nI t)), (7, .int xx), (8, .int (nI ca)), (9, .int (nI li)), (10, .int (nI wv)), (11, .int (nI wh))] [] := by
  have hCI := hS.2.ci
  have hwl := hS.2.way
  have K := law_rwe h hlt hS hL hc hsl hca hli hwv hwh kk (xx := xx)
  refine g_iload h 11 dL_law_163 rfl ?_
  refine g_iconst (v := nI 5) h dL_law_165 (by decide) ?_
  refine g_icmp_geN h 197 dL_law_166 (by decide) (by omega) (by omega) (fun _ => K) (fun _ => ?_)
  refine g_aload_n h 1 dL_law_169 rfl rfl ?_
  refine g_callV (As := []) (C := RX5) h 0 (c_X5_messageCount l E _ v [] hS.1) rfl gL_law_X5_messageCount rfl rfl rfl rfl (by decide +kernel) ⟨Nat.le_of_ble_eq_true rfl, Nat.le_of_ble_eq_true rfl⟩ (wat_D E _) rfl rfl dL_law_170 ⟨by dsimp only [RM0]; omega, by dsimp only [RM0]; omega⟩ (Nat.le_of_ble_eq_true rfl) ?_
  rintro _ _ ⟨rfl, hy⟩
  obtain rfl := hy.symm
  dsimp only [Option.toList, List.cons_append, List.nil_append]
  refine g_if_le h 197 dL_law_173 (by decide) (fun _ => K) (fun z => ?_)
  have hn : 0 < (v.q 16).length := by
    by_cases e : (v.q 16).length = 0
    · exact absurd (show nI (r_X5_messageCount v) ≤ 0 by unfold r_X5_messageCount; rw [e]; decide) z
    · omega
  refine g_aload_n h 1 dL_law_176 rfl rfl ?_
  refine g_iload h 7 dL_law_177 rfl ?_
  refine g_bipush (v := nI 9) h dL_law_179 (by decide +kernel) ?_
  refine g_ishr h dL_law_181 ?_
  refine g_aload_n h 1 dL_law_182 rfl rfl ?_
  refine g_callV (As := []) (C := RX5) h 0 (c_X5_messageCount l E _ v [] hS.1) rfl gL_law_X5_messageCount rfl rfl rfl rfl (by decide +kernel) ⟨Nat.le_of_ble_eq_true rfl, Nat.le_of_ble_eq_true rfl⟩ (wat_D E _) rfl rfl dL_law_183 ⟨by dsimp only [RM0]; omega, by dsimp only [RM0]; omega⟩ (Nat.le_of_ble_eq_true rfl) ?_
  rintro _ _ ⟨rfl, hy⟩
  obtain rfl := hy.symm
  dsimp only [Option.toList, List.cons_append, List.nil_append]
  refine g_eqi (show nI (r_X5_messageCount v) = nI (v.q 16).length from rfl) ?_
  refine g_callS (As := [.int _, .int (nI (v.q 16).length)]) h 2 (c_below l E _ _ (v.q 16).length (hn) (by omega)) rfl gL_law_L_below rfl rfl rfl rfl (by decide +kernel) ⟨Nat.le_of_ble_eq_true rfl, Nat.le_of_ble_eq_true rfl⟩ dL_law_186 ⟨by show _ + 0 ≤ 879821; omega, by show _ + 0 ≤ 6462004; omega⟩ (Nat.le_of_ble_eq_true rfl) ?_
  rintro _ _ ⟨⟨k, hk, rfl⟩, hy⟩
  obtain rfl := hy.symm
  dsimp only [Option.toList, List.cons_append, List.nil_append]
  have hu := uH_le hS.2 hk
  obtain ⟨M, s1, s2⟩ := lw_take hS.2 hL hk
  refine g_callV (As := [.int (nI k)]) (C := RX5) h 1 (c_X5_deliver l E _ v hS.1 k hk hCI) rfl gL_law_X5_deliver rfl rfl rfl rfl (by decide +kernel) ⟨Nat.le_of_ble_eq_true rfl, Nat.le_of_ble_eq_true rfl⟩ (wat_D E _) rfl rfl dL_law_189 ⟨by show _ + _ ≤ _; dsimp only; omega, by show _ + _ ≤ _; dsimp only; omega⟩ (Nat.le_of_ble_eq_true rfl) ?_
  rintro _ y ⟨rfl, hV⟩
  dsimp only [Option.toList, List.cons_append, List.nil_append]
  have hq : ((s_handOver v k).q 16).length ≤ 44 := SV.way s1
  refine g_if_ge h 323 dL_law_192 (by decide) (fun _ => ?_) (fun z => absurd (nI_pos' (by omega)) z)
  exact g_lv [0, 1, 2, 3, 4, 5, 6] rfl (kk y _ A M _ _ ⟨hV, s1⟩ s2 (by omega) (by omega))
end LAW
