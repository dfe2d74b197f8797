/-! ===== the law's walk ===== -/
abbrev RM0 : Room := { frames := 15, cells := 879821, slots := 6462004, locals := 578 }
theorem wat_Y0 (E : gE) (x : St) : wat E x (aY E 0) (.inl (E.cid 0, 4, .inl (x.AM 0))) := wat_Y E x (i := 0) (by decide)
theorem wat_Y1 (E : gE) (x : St) : wat E x (aY E 1) (.inl (E.cid 0, 4, .inl (x.AM 1))) := wat_Y E x (i := 1) (by decide)
theorem wat_Y2 (E : gE) (x : St) : wat E x (aY E 2) (.inl (E.cid 0, 4, .inl (x.AM 2))) := wat_Y E x (i := 2) (by decide)
theorem wat_Y3 (E : gE) (x : St) : wat E x (aY E 3) (.inl (E.cid 1, 4, .inl (x.AM 3))) := wat_Y E x (i := 3) (by decide)
theorem ws_Y0 (E : gE) (x : St) (f : Nat → Int32) : wsg E x (aY E 0) (.inl (E.cid 0, 4, .inl (x.AM 0))) (.inl (E.cid 0, 4, .inl f)) (x.setAM 0 f) := ws_Y E x (i := 0) (by decide) f
theorem ws_Y1 (E : gE) (x : St) (f : Nat → Int32) : wsg E x (aY E 1) (.inl (E.cid 0, 4, .inl (x.AM 1))) (.inl (E.cid 0, 4, .inl f)) (x.setAM 1 f) := ws_Y E x (i := 1) (by decide) f
theorem ws_Y2 (E : gE) (x : St) (f : Nat → Int32) : wsg E x (aY E 2) (.inl (E.cid 0, 4, .inl (x.AM 2))) (.inl (E.cid 0, 4, .inl f)) (x.setAM 2 f) := ws_Y E x (i := 2) (by decide) f
theorem ws_Y3 (E : gE) (x : St) (f : Nat → Int32) : wsg E x (aY E 3) (.inl (E.cid 1, 4, .inl (x.AM 3))) (.inl (E.cid 1, 4, .inl f)) (x.setAM 3 f) := ws_Y E x (i := 3) (by decide) f
theorem LW0.vam {v : Vw} {A : St} {N : Nat → Int} {r : Nat} {f : Nat → Int32} (h : LW0 v A N) : LW0 (vAM v r f) A N := h
section LAW
variable {p : Program} {l : Launch} {e : Env} {s : State} {m : MethodId} {below : List Frame} {meth : Method} {c : Code} {Q : State → Prop} {E : gE} {S0 x : St} {b L cs sl t : Nat} {xs : Nat → Int32} {v : Vw} {A : St} {N : Nat → Int}
set_option maxRecDepth 100000 in
set_option maxHeartbeats 1000000 in
theorem law_vals (h : gO p s m #[.ref b] c cL_law 14 RL wsL_law E S0) (hS : k_LS x v A N) (hL : LW0 v A N) (hc : cs ≤ 879821) (hsl : sl ≤ 6462004) {i : Nat} (hi : i < 3) (kk : G p l e RM0 s m #[.ref b] below meth c Q E S0 14 cs sl x 506 [(0, .ref b), (1, .ref (aD E)), (2, .ref (aY E 0)), (3, .ref (aY E 1)), (4, .ref (aY E 2)), (5, .ref (aY E 3)), (6, .int (nI t)), (12, .int (nI i))] []) : ∀ (n q : Nat), q + n = 4 → G p l e RM0 s m #[.ref b] below meth c Q E S0 14 cs sl x 466 [(0, .ref b), (1, .ref (aD E)), (2, .ref (aY E 0)), (3, .ref (aY E 1)), (4, .ref (aY E 2)), (5, .ref (aY E 3)), (6, .int (nI t)), (12, .int (nI i)), (13, .int (nI q))] [] := by
  intro n
  induction n with
  | zero =>
    intro q hq
    refine g_iload h 8 dL_law_466 rfl ?_
    refine g_iconst (v := nI 4) h dL_law_468 (by decide) ?_
    refine g_icmp_geN h 506 dL_law_469 (by decide) (by omega) (by omega) (fun _ => ?_) (fun z => absurd (by omega) z)
    exact g_lv [0, 1, 2, 3, 4, 5, 6, 7] rfl kk
  | succ n ih =>
    intro q hq
    have nx : G p l e RM0 s m #[.ref b] below meth c Q E S0 14 cs sl x 500 [(0, .ref b), (1, .ref (aD E)), (2, .ref (aY E 0)), (3, .ref (aY E 1)), (4, .ref (aY E 2)), (5, .ref (aY E 3)), (6, .int (nI t)), (12, .int (nI i)), (13, .int (nI q))] [] := by
      refine g_iinc (lv' := [(0, .ref b), (1, .ref (aD E)), (2, .ref (aY E 0)), (3, .ref (aY E 1)), (4, .ref (aY E 2)), (5, .ref (aY E 3)), (6, .int (nI t)), (12, .int (nI i)), (13, .int (nI (q + 1)))]) h 8 [1, 2, 3, 4, 5, 6, 7, 8, 0] dL_law_500 rfl (nI_add _ 1) (by decide) rfl ?_
      refine g_goto h 466 dL_law_503 (by decide) ?_
      exact ih (q + 1) (by omega)
    refine g_iload h 8 dL_law_466 rfl ?_
    refine g_iconst (v := nI 4) h dL_law_468 (by decide) ?_
    refine g_icmp_geN h 506 dL_law_469 (by decide) (by omega) (by omega) (fun z => absurd z (by omega)) (fun _ => ?_)
    refine g_aload_n h 1 dL_law_472 rfl rfl ?_
    refine g_iload h 8 dL_law_473 rfl ?_
    refine g_iload h 7 dL_law_475 rfl ?_
    refine g_callV (As := [.int (nI q), .int (nI i)]) (C := RX5) h 2 (c_X5_state l E _ v [] hS.1 q i (by omega) (by omega)) rfl gL_law_X5_state rfl rfl rfl rfl (by decide +kernel) ⟨Nat.le_of_ble_eq_true rfl, Nat.le_of_ble_eq_true rfl⟩ (wat_D E _) rfl rfl dL_law_477 ⟨by show _ + 0 ≤ _; omega, by show _ + 0 ≤ _; omega⟩ (Nat.le_of_ble_eq_true rfl) ?_
    rintro _ _ ⟨rfl, hy⟩
    obtain rfl := hy.symm
    dsimp only [Option.toList, List.cons_append, List.nil_append]
    refine g_if_le h 500 dL_law_480 (by decide) (fun _ => nx) (fun z => ?_)
    obtain ⟨hh, hv⟩ := val_v hS.2 (i := q) (j := i) (by omega) (by omega) (Int32.not_le.mp z)
    refine g_aload_n h 1 dL_law_483 rfl rfl ?_
    refine g_iload h 8 dL_law_484 rfl ?_
    refine g_iload h 7 dL_law_486 rfl ?_
    refine g_callV (As := [.int (nI q), .int (nI i)]) (C := RX5) h 2 (c_X5_value l E _ v [] hS.1 q i (by omega) (by omega) hh) rfl gL_law_X5_value rfl rfl rfl rfl (by decide +kernel) ⟨Nat.le_of_ble_eq_true rfl, Nat.le_of_ble_eq_true rfl⟩ (wat_D E _) rfl rfl dL_law_488 ⟨by show _ + 0 ≤ _; omega, by show _ + 0 ≤ _; omega⟩ (Nat.le_of_ble_eq_true rfl) ?_
    rintro _ _ ⟨rfl, hy⟩
    obtain rfl := hy.symm
    dsimp only [Option.toList, List.cons_append, List.nil_append]
    refine g_aload_n h 2 dL_law_491 rfl rfl ?_
    refine g_iload h 7 dL_law_492 rfl ?_
    refine g_iald h (wat_Y0 E _) (by omega) (by decide) dL_law_494 ?_
    refine g_icmp_eq h 500 dL_law_495 (by decide) (fun _ => nx) (fun z => ?_)
    refine absurd (i32_eq.mpr ?_) z
    rw [hS.am 0, hL.2 i hi]
    exact hv
set_option maxRecDepth 100000 in
set_option maxHeartbeats 1000000 in
theorem law_ord (h : gO p s m #[.ref b] c cL_law 14 RL wsL_law E S0) (hS : k_LS x v A N) (hL : LW0 v A N) (hc : cs ≤ 879821) (hsl : sl ≤ 6462004) (kk : G p l e RM0 s m #[.ref b] below meth c Q E S0 14 cs sl x 512 [(0, .ref b), (1, .ref (aD E)), (2, .ref (aY E 0)), (3, .ref (aY E 1)), (4, .ref (aY E 2)), (5, .ref (aY E 3)), (6, .int (nI t))] []) : ∀ (n i : Nat), i + n = 3 → G p l e RM0 s m #[.ref b] below meth c Q E S0 14 cs sl x 446 [(0, .ref b), (1, .ref (aD E)), (2, .ref (aY E 0)), (3, .ref (aY E 1)), (4, .ref (aY E 2)), (5, .ref (aY E 3)), (6, .int (nI t)), (12, .int (nI i))] [] := by
  intro n
  induction n with
  | zero =>
    intro i hi
    refine g_iload h 7 dL_law_446 rfl ?_
    refine g_iconst (v := nI 3) h dL_law_448 (by decide) ?_
    refine g_icmp_geN h 512 dL_law_449 (by decide) (by omega) (by omega) (fun _ => ?_) (fun z => absurd (by omega) z)
    exact g_lv [0, 1, 2, 3, 4, 5, 6] rfl kk
  | succ n ih =>
    intro i hi
    refine g_iload h 7 dL_law_446 rfl ?_
    refine g_iconst (v := nI 3) h dL_law_448 (by decide) ?_
    refine g_icmp_geN h 512 dL_law_449 (by decide) (by omega) (by omega) (fun z => absurd z (by omega)) (fun _ => ?_)
    refine g_aload_n h 1 dL_law_452 rfl rfl ?_
    refine g_iload h 7 dL_law_453 rfl ?_
    refine g_callV (As := [.int (nI i)]) (C := RX5) h 1 (c_X5_isInOrder l E _ i (by omega)) rfl gL_law_X5_isInOrder rfl rfl rfl rfl (by decide +kernel) ⟨Nat.le_of_ble_eq_true rfl, Nat.le_of_ble_eq_true rfl⟩ (wat_D E _) rfl rfl dL_law_455 ⟨by show _ + 0 ≤ _; omega, by show _ + 0 ≤ _; omega⟩ (Nat.le_of_ble_eq_true rfl) ?_
    rintro _ _ ⟨rfl, hy⟩
    obtain rfl := hy.symm
    dsimp only [Option.toList, List.cons_append, List.nil_append]
    rw [io_v hS.2 (u := x) (fun a d n => hS.1.AC a d n) (show i < 16 by omega)]
    refine g_if_ne h 463 dL_law_458 (by decide) (fun _ => ?_) (fun z => absurd z (by decide))
    refine g_iconst (v := nI 0) h dL_law_463 (by decide) ?_
    refine g_istore (lv' := [(0, _), (1, _), (2, _), (3, _), (4, _), (5, _), (6, _), (12, _), (13, _)]) h [1, 2, 3, 4, 5, 6, 7, 8, 0] dL_law_464 (by decide) rfl ?_
    refine law_vals h hS hL hc hsl (by omega) ?_ 4 0 rfl
    refine g_iinc (lv' := [(0, .ref b), (1, .ref (aD E)), (2, .ref (aY E 0)), (3, .ref (aY E 1)), (4, .ref (aY E 2)), (5, .ref (aY E 3)), (6, .int (nI t)), (12, .int (nI (i + 1)))]) h 7 [1, 2, 3, 4, 5, 6, 7, 0] dL_law_506 rfl (nI_add _ 1) (by decide) rfl ?_
    refine g_goto h 446 dL_law_509 (by decide) ?_
    exact ih (i + 1) (by omega)
set_option maxRecDepth 100000 in
set_option maxHeartbeats 1000000 in
theorem law_look (h : gO p s m #[.ref b] c cL_law 14 RL wsL_law E S0) (hc : cs ≤ 879821) (hsl : sl ≤ 6462004) (kk : ∀ (y : St) (w : Vw) (B : St), k_LS y w B N → LW0 w B N → G p l e RM0 s m #[.ref b] below meth c Q E S0 14 cs sl y 443 [(0, .ref b), (1, .ref (aD E)), (2, .ref (aY E 0)), (3, .ref (aY E 1)), (4, .ref (aY E 2)), (5, .ref (aY E 3)), (6, .int (nI t))] []) : ∀ (n q : Nat) (x : St) (v : Vw) (A : St), q + n = 4 → k_LS x v A N → (LW0 v A N ∨ PND v A N q) → G p l e RM0 s m #[.ref b] below meth c Q E S0 14 cs sl x 326 [(0, .ref b), (1, .ref (aD E)), (2, .ref (aY E 0)), (3, .ref (aY E 1)), (4, .ref (aY E 2)), (5, .ref (aY E 3)), (6, .int (nI t)), (12, .int (nI q))] [] := by
  intro n
  induction n with
  | zero =>
    intro q x v A hq hS hP
    refine g_iload h 7 dL_law_326 rfl ?_
    refine g_iconst (v := nI 4) h dL_law_328 (by decide) ?_
    refine g_icmp_geN h 443 dL_law_329 (by decide) (by omega) (by omega) (fun _ => ?_) (fun z => absurd (by omega) z)
    have hq4 : q = 4 := by omega
    subst hq4
    exact g_lv [0, 1, 2, 3, 4, 5, 6] rfl (kk x v A hS (lw_end hP))
  | succ n ih =>
    intro q x v A hq hS hP
    have hq4 : q < 4 := by omega
    have nx : ∀ (y : St) (w : Vw) (B : St), k_LS y w B N → (LW0 w B N ∨ PND w B N (q + 1)) → G p l e RM0 s m #[.ref b] below meth c Q E S0 14 cs sl y 437 [(0, .ref b), (1, .ref (aD E)), (2, .ref (aY E 0)), (3, .ref (aY E 1)), (4, .ref (aY E 2)), (5, .ref (aY E 3)), (6, .int (nI t)), (12, .int (nI q))] [] := by
      intro y w B h1 h2
      refine g_iinc (lv' := [(0, .ref b), (1, .ref (aD E)), (2, .ref (aY E 0)), (3, .ref (aY E 1)), (4, .ref (aY E 2)), (5, .ref (aY E 3)), (6, .int (nI t)), (12, .int (nI (q + 1)))]) h 7 [1, 2, 3, 4, 5, 6, 7, 0] dL_law_437 rfl (nI_add _ 1) (by decide) rfl ?_
      refine g_goto h 326 dL_law_440 (by decide) ?_
      exact ih (q + 1) y w B (by omega) h1 h2
    refine g_iload h 7 dL_law_326 rfl ?_
    refine g_iconst (v := nI 4) h dL_law_328 (by decide) ?_
    refine g_icmp_geN h 443 dL_law_329 (by decide) (by omega) (by omega) (fun z => absurd z (by omega)) (fun _ => ?_)
    refine g_aload_n h 3 dL_law_332 rfl rfl ?_
    refine g_iload h 7 dL_law_333 rfl ?_
    refine g_iald h (wat_Y1 E _) hq4 (by decide) dL_law_335 ?_
    rcases lw_look hP hq4 with ⟨hs, hn⟩ | ⟨j, hj, hpn⟩
    · have eo : x.AM 1 q = v.x.FR q 0 := i32_eq.mpr (by rw [hS.am 1, hs.1]; rfl)
      refine g_if_lt h 437 dL_law_336 (by decide) (fun _ => nx x v A hS hn) (fun _ => ?_)
      refine g_aload_n h 1 dL_law_339 rfl rfl ?_
      refine g_iload h 7 dL_law_340 rfl ?_
      refine g_callV (As := [.int (nI q)]) (C := RX5) h 1 (c_X5_openLine l E _ v [] hS.1 q hq4) rfl gL_law_X5_openLine rfl rfl rfl rfl (by decide +kernel) ⟨Nat.le_of_ble_eq_true rfl, Nat.le_of_ble_eq_true rfl⟩ (wat_D E _) rfl rfl dL_law_342 ⟨by show _ + 0 ≤ _; omega, by show _ + 0 ≤ _; omega⟩ (Nat.le_of_ble_eq_true rfl) ?_
      rintro _ _ ⟨rfl, hy⟩
      obtain rfl := hy.symm
      dsimp only [Option.toList, List.cons_append, List.nil_append]
      refine g_aload_n h 3 dL_law_345 rfl rfl ?_
      refine g_iload h 7 dL_law_346 rfl ?_
      refine g_iald h (wat_Y1 E _) hq4 (by decide) dL_law_348 ?_
      refine g_icmp_ne h 355 dL_law_349 (by decide) (fun z => absurd eo.symm z) (fun _ => ?_)
      refine g_goto h 437 dL_law_352 (by decide) ?_
      exact nx x v A hS hn
    · obtain ⟨p1, p2, p3, p4⟩ := id hpn
      have eo : x.AM 1 q = nI j := by rw [hS.am 1]; exact p1
      have ef : v.x.FR q 0 = -1 := i32_eq.mpr (p2.trans tm1.symm)
      have e3 : x.AM 3 q = A.AM 3 q := by rw [hS.am 3]
      refine g_if_lt h 437 dL_law_336 (by decide) (fun z => absurd z (by rw [eo]; exact nI_pos (by omega))) (fun _ => ?_)
      refine g_aload_n h 1 dL_law_339 rfl rfl ?_
      refine g_iload h 7 dL_law_340 rfl ?_
      refine g_callV (As := [.int (nI q)]) (C := RX5) h 1 (c_X5_openLine l E _ v [] hS.1 q hq4) rfl gL_law_X5_openLine rfl rfl rfl rfl (by decide +kernel) ⟨Nat.le_of_ble_eq_true rfl, Nat.le_of_ble_eq_true rfl⟩ (wat_D E _) rfl rfl dL_law_342 ⟨by show _ + 0 ≤ _; omega, by show _ + 0 ≤ _; omega⟩ (Nat.le_of_ble_eq_true rfl) ?_
      rintro _ _ ⟨rfl, hy⟩
      obtain rfl := hy.symm
      dsimp only [Option.toList, List.cons_append, List.nil_append]
      refine g_eqi (show r_X5_openLine v q = -1 from ef) ?_
      refine g_aload_n h 3 dL_law_345 rfl rfl ?_
      refine g_iload h 7 dL_law_346 rfl ?_
      refine g_iald h (wat_Y1 E _) hq4 (by decide) dL_law_348 ?_
      refine g_icmp_ne h 355 dL_law_349 (by decide) (fun _ => ?_) (fun z => absurd z.symm (nn16 (i := j) (by omega) eo))
      refine g_aload_n h 1 dL_law_355 rfl rfl ?_
      refine g_iload h 7 dL_law_356 rfl ?_
      refine g_callV (As := [.int (nI q)]) (C := RX5) h 1 (c_X5_openLine l E _ v [] hS.1 q hq4) rfl gL_law_X5_openLine rfl rfl rfl rfl (by decide +kernel) ⟨Nat.le_of_ble_eq_true rfl, Nat.le_of_ble_eq_true rfl⟩ (wat_D E _) rfl rfl dL_law_358 ⟨by show _ + 0 ≤ _; omega, by show _ + 0 ≤ _; omega⟩ (Nat.le_of_ble_eq_true rfl) ?_
      rintro _ _ ⟨rfl, hy⟩
      obtain rfl := hy.symm
      dsimp only [Option.toList, List.cons_append, List.nil_append]
      refine g_eqi (show r_X5_openLine v q = -1 from ef) ?_
      refine g_iconst (v := -1) h dL_law_361 (by decide) ?_
      refine g_icmp_ne h 391 dL_law_362 (by decide) (fun z => absurd rfl z) (fun _ => ?_)
      refine g_aload_n h 1 dL_law_365 rfl rfl ?_
      refine g_iload h 7 dL_law_366 rfl ?_
      refine g_aload_n h 3 dL_law_368 rfl rfl ?_
      refine g_iload h 7 dL_law_369 rfl ?_
      refine g_iald h (wat_Y1 E _) hq4 (by decide) dL_law_371 ?_
      refine g_eqi eo ?_
      refine g_callV (As := [.int (nI q), .int (nI j)]) (C := RX5) h 2 (c_X5_state l E _ v [] hS.1 q j hq4 (by omega)) rfl gL_law_X5_state rfl rfl rfl rfl (by decide +kernel) ⟨Nat.le_of_ble_eq_true rfl, Nat.le_of_ble_eq_true rfl⟩ (wat_D E _) rfl rfl dL_law_372 ⟨by show _ + 0 ≤ _; omega, by show _ + 0 ≤ _; omega⟩ (Nat.le_of_ble_eq_true rfl) ?_
      rintro _ _ ⟨rfl, hy⟩
      obtain rfl := hy.symm
      dsimp only [Option.toList, List.cons_append, List.nil_append]
      refine g_aload h 5 dL_law_375 rfl ?_
      refine g_iload h 7 dL_law_377 rfl ?_
      refine g_zald h (wat_Y3 E _) hq4 (by decide) dL_law_379 ?_
      rcases p4 with ⟨g1, g2, g3, g4⟩ | ⟨g1, g2, g3, g4⟩
      · refine g_if_eq h 387 dL_law_380 (by decide) (fun _ => ?_) (fun z => absurd (e3.trans g1) z)
        refine g_iconst (v := nI 1) h dL_law_387 (by decide) ?_
        refine g_icmp_eq h 393 dL_law_388 (by decide) (fun _ => ?_) (fun z => absurd g2 z)
        refine g_aload h 5 dL_law_393 rfl ?_
        refine g_iload h 7 dL_law_395 rfl ?_
        refine g_zald h (wat_Y3 E _) hq4 (by decide) dL_law_397 ?_
        refine g_if_eq h 415 dL_law_398 (by decide) (fun _ => ?_) (fun z => absurd (e3.trans g1) z)
        refine g_aload_n h 1 dL_law_415 rfl rfl ?_
        refine g_iload h 7 dL_law_416 rfl ?_
        refine g_callV (As := [.int (nI q)]) (C := RX5) h 1 (c_X5_latestRead l E _ v [] hS.1 q hq4) rfl gL_law_X5_latestRead rfl rfl rfl rfl (by decide +kernel) ⟨Nat.le_of_ble_eq_true rfl, Nat.le_of_ble_eq_true rfl⟩ (wat_D E _) rfl rfl dL_law_418 ⟨by show _ + 0 ≤ _; omega, by show _ + 0 ≤ _; omega⟩ (Nat.le_of_ble_eq_true rfl) ?_
        rintro _ _ ⟨rfl, hy⟩
        obtain rfl := hy.symm
        dsimp only [Option.toList, List.cons_append, List.nil_append]
        refine g_aload_n h 2 dL_law_421 rfl rfl ?_
        refine g_aload_n h 3 dL_law_422 rfl rfl ?_
        refine g_iload h 7 dL_law_423 rfl ?_
        refine g_iald h (wat_Y1 E _) hq4 (by decide) dL_law_425 ?_
        refine g_eqi eo ?_
        refine g_iald h (wat_Y0 E _) (show j < 4 by omega) (by decide) dL_law_426 ?_
        refine g_icmp_eq h 432 dL_law_427 (by decide) (fun _ => ?_) (fun z => absurd (i32_eq.mpr (by rw [hS.am 0, g4 j hj]; exact g3)) z)
        refine g_aload_n h 3 dL_law_432 rfl rfl ?_
        refine g_iload h 7 dL_law_433 rfl ?_
        refine g_iconst (v := -1) h dL_law_435 (by decide) ?_
        refine g_iast h (ws_Y1 E _ _) hq4 (by decide) dL_law_436 ?_
        refine nx _ _ _ hS.set (Or.inl (LW0.vam (lw_off hpn hj hq4 (w := A.AM 0 j) (Or.inl ⟨rfl, g1⟩) ?_ ?_ ?_ ?_)))
        · rw [AM_ne (by decide)]
          funext k
          rw [updA]
          split
          · rename_i e
            rw [e]
          · rfl
        · rw [AM_eq, hS.am 1]
        · exact AM_ne (by decide)
        · exact AM_ne (by decide)
      · refine g_if_eq h 387 dL_law_380 (by decide) (fun z => absurd (e3.symm.trans z) g1) (fun _ => ?_)
        refine g_iconst (v := nI 3) h dL_law_383 (by decide) ?_
        refine g_goto h 388 dL_law_384 (by decide) ?_
        refine g_icmp_eq h 393 dL_law_388 (by decide) (fun _ => ?_) (fun z => absurd g2 z)
        refine g_aload h 5 dL_law_393 rfl ?_
        refine g_iload h 7 dL_law_395 rfl ?_
        refine g_zald h (wat_Y3 E _) hq4 (by decide) dL_law_397 ?_
        refine g_if_eq h 415 dL_law_398 (by decide) (fun z => absurd (e3.symm.trans z) g1) (fun _ => ?_)
        refine g_aload_n h 2 dL_law_401 rfl rfl ?_
        refine g_aload_n h 3 dL_law_402 rfl rfl ?_
        refine g_iload h 7 dL_law_403 rfl ?_
        refine g_iald h (wat_Y1 E _) hq4 (by decide) dL_law_405 ?_
        refine g_eqi eo ?_
        refine g_aload h 4 dL_law_406 rfl ?_
        refine g_iload h 7 dL_law_408 rfl ?_
        refine g_iald h (wat_Y2 E _) hq4 (by decide) dL_law_410 ?_
        refine g_iast h (ws_Y0 E _ _) (show j < 4 by omega) (by decide) dL_law_411 ?_
        refine g_goto h 432 dL_law_412 (by decide) ?_
        refine g_aload_n h 3 dL_law_432 rfl rfl ?_
        refine g_iload h 7 dL_law_433 rfl ?_
        refine g_iconst (v := -1) h dL_law_435 (by decide) ?_
        refine g_iast h (ws_Y1 E _ _) hq4 (by decide) dL_law_436 ?_
        refine nx _ _ _ hS.set.set (Or.inl (LW0.vam (LW0.vam (lw_off hpn hj hq4 (w := A.AM 2 q) (Or.inr ⟨rfl, g1⟩) ?_ ?_ ?_ ?_))))
        · rw [AM_ne (by decide), AM_eq, hS.am 0, hS.am 2]
        · rw [AM_eq, AM_ne (by decide), hS.am 1]
        · rw [AM_ne (by decide), AM_ne (by decide)]
        · rw [AM_ne (by decide), AM_ne (by decide)]
set_option maxRecDepth 100000 in
set_option maxHeartbeats 1000000 in
theorem law_check (h : gO p s m #[.ref b] c cL_law 14 RL wsL_law E S0) (hS : k_LS x v A N) (hP : LW0 v A N ∨ PND v A N 0) (hc : cs ≤ 879821) (hsl : sl ≤ 6462004) (kk : ∀ (y : St) (w : Vw) (B : St), k_LS y w B N → LW0 w B N → G p l e RM0 s m #[.ref b] below meth c Q E S0 14 cs sl y 512 [(0, .ref b), (1, .ref (aD E)), (2, .ref (aY E 0)), (3, .ref (aY E 1)), (4, .ref (aY E 2)), (5, .ref (aY E 3)), (6, .int (nI t))] []) : G p l e RM0 s m #[.ref b] below meth c Q E S0 14 cs sl x 323 [(0, .ref b), (1, .ref (aD E)), (2, .ref (aY E 0)), (3, .ref (aY E 1)), (4, .ref (aY E 2)), (5, .ref (aY E 3)), (6, .int (nI t))] [] := by
  refine g_iconst (v := nI 0) h dL_law_323 (by decide) ?_
  refine g_istore (lv' := [(0, _), (1, _), (2, _), (3, _), (4, _), (5, _), (6, _), (12, _)]) h [1, 2, 3, 4, 5, 6, 7, 0] dL_law_324 (by decide) rfl ?_
  refine law_look h hc hsl (fun y w B h1 h2 => ?_) 4 0 x v A rfl hS hP
  refine g_iconst (v := nI 0) h dL_law_443 (by decide) ?_
  refine g_istore (lv' := [(0, _), (1, _), (2, _), (3, _), (4, _), (5, _), (6, _), (12, _)]) h [1, 2, 3, 4, 5, 6, 7, 0] dL_law_444 (by decide) rfl ?_
  exact law_ord h h1 h2 hc hsl (kk y w B h1 h2) 3 0 rfl
end LAW
