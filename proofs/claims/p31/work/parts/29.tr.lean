set_option maxRecDepth 100000 in
set_option maxHeartbeats 400000 in
theorem t_X5_checkHeld (l : Launch) (E : gE) (x : St) (hlt : l.stackTraces = false) (v : Vw) (hs : List (Nat × M7)) (hV : VW x v [] hs) (i : Nat) (j : Nat) (hi : i < 4) (hj : j < 16) (hh : nI (r_X0_holds v i j) = 0) : Tr l yX5_checkHeld wsX5_checkHeld { frames := 6, cells := 1, slots := 6, locals := 110 } E [.ref (aC E i), .int (nI j)] x "java/util/NoSuchElementException" 1 6 := by
  refine Tr.of (cc := cX5_checkHeld) (nL := 2) (ret := none) (by decide) rfl (Nat.le_of_ble_eq_true rfl) ?_
  intro p e s m args below meth c h hk hx
  refine g_lvs (lv' := [(0, _), (1, _)]) rfl ?_
  refine g_aload_n h 0 dX5_checkHeld_0 rfl rfl ?_
  refine g_iload_n h 1 dX5_checkHeld_1 rfl rfl ?_
  refine g_callV (As := [.int (nI j)]) (C := RX0) h 1 (c_X0_holds l E _ _ _ _ hV i j (by omega) (by omega)) rfl gX5_checkHeld_X0_holds rfl rfl rfl rfl (by decide +kernel) ⟨Nat.le_of_ble_eq_true rfl, Nat.le_of_ble_eq_true rfl⟩ (wat_C E _ (by omega)) rfl rfl dX5_checkHeld_2 ⟨by dsimp only; omega, by dsimp only; omega⟩ (Nat.le_of_ble_eq_true rfl) ?_
  rintro _ _ ⟨rfl, hy⟩
  obtain rfl := hy.symm
  dsimp only [Option.toList, List.cons_append, List.nil_append]
  refine g_if_ne h 18 dX5_checkHeld_5 (by decide) (fun c_5 => absurd c_5 (fun q => q hh)) (fun c_5 => ?_)
  exact g_throwN (EX := "java/util/NoSuchElementException") (text := "the line is not in the cache") (Y9 := "java/lang/RuntimeException") (r9 := ["java/lang/Exception"]) (ik := 127) (is := 219) (ic := 131) h hlt hk hx 11 rfl (by decide +kernel) (by decide +kernel) (by decide +kernel) (by decide +kernel) (by decide +kernel) (by decide +kernel) (by decide +kernel) (by decide +kernel) dX5_checkHeld_8 dX5_checkHeld_11 dX5_checkHeld_12 dX5_checkHeld_14 dX5_checkHeld_17 (Nat.le_of_ble_eq_true rfl) (Nat.le_of_ble_eq_true rfl) (by dsimp only; omega) (by dsimp only; omega) (by omega) (by omega)
set_option maxRecDepth 100000 in
set_option maxHeartbeats 400000 in
theorem t_X5_checkAccess (l : Launch) (E : gE) (x : St) (hlt : l.stackTraces = false) (v : Vw) (hs : List (Nat × M7)) (hV : VW x v [] hs) (i : Nat) (j : Nat) (hi : i < 4) (hj : j < 16) (hu : v.x.AC i 3 0 = nI (nat (v.x.AC i 3 0)) ∧ nat (v.x.AC i 3 0) < 16) (hac : ¬ (v.x.FR i 0 = -1 ∧ v.x.AC i 2 j = -1 ∧ (nI (r_X0_needsWayFor v i j) = 0 ∨ nI (r_X0_lacksVictimRoomFor v i (nat (v.x.AC i 3 0))) = 0))) : Tr l yX5_checkAccess wsX5_checkAccess { frames := 6, cells := 1, slots := 6, locals := 110 } E [.ref (aC E i), .int (nI j)] x "java/lang/IllegalStateException" 1 6 := by
  refine Tr.of (cc := cX5_checkAccess) (nL := 2) (ret := none) (by decide) rfl (Nat.le_of_ble_eq_true rfl) ?_
  intro p e s m args below meth c h hk hx
  refine g_lvs (lv' := [(0, _), (1, _)]) rfl ?_
  have hu2 := hu.2
  refine g_aload_n h 0 dX5_checkAccess_0 rfl rfl ?_
  refine g_get (C := RX0) (T := TX0) (N := 14) h 2 (wat_C E _ (by omega)) rfl in_X5_checkAccess_X0 (by decide) lk_X5_checkAccess_99 rfl rfl dX5_checkAccess_1 ?_
  refine g_get (C := RX4) (T := TX4) (N := 7) h 0 (wat_R E _ (by omega)) rfl in_X5_checkAccess_X4 (by decide) lk_X5_checkAccess_103 rfl rfl dX5_checkAccess_4 ?_
  refine g_eqi (hV.FR _ _) ?_
  refine g_iconst (v := -1) h dX5_checkAccess_7 (by decide) ?_
  refine g_icmp_eq h 21 dX5_checkAccess_8 (by decide) (fun c_8 => ?_) (fun c_8 => ?_)
  · skip
    refine g_aload_n h 0 dX5_checkAccess_21 rfl rfl ?_
    refine g_get (C := RX0) (T := TX0) (N := 14) h 5 (wat_C E _ (by omega)) rfl in_X5_checkAccess_X0 (by decide) lk_X5_checkAccess_118 rfl rfl dX5_checkAccess_22 ?_
    refine g_iload_n h 1 dX5_checkAccess_25 rfl rfl ?_
    refine g_iald (n := 16) h (wat_A16 E _ (by omega) (by decide)) (by omega) (by decide) dX5_checkAccess_26 ?_
    refine g_eqi (hV.AC _ _ _) ?_
    refine g_iconst (v := -1) h dX5_checkAccess_27 (by decide) ?_
    refine g_icmp_eq h 41 dX5_checkAccess_28 (by decide) (fun c_28 => ?_) (fun c_28 => ?_)
    · skip
      refine g_aload_n h 0 dX5_checkAccess_41 rfl rfl ?_
      refine g_iload_n h 1 dX5_checkAccess_42 rfl rfl ?_
      refine g_callV (As := [.int (nI j)]) (C := RX0) h 1 (c_X0_needsWayFor l E _ _ _ _ hV i j (by omega) (by omega)) rfl gX5_checkAccess_X0_needsWayFor rfl rfl rfl rfl (by decide +kernel) ⟨Nat.le_of_ble_eq_true rfl, Nat.le_of_ble_eq_true rfl⟩ (wat_C E _ (by omega)) rfl rfl dX5_checkAccess_43 ⟨by dsimp only; omega, by dsimp only; omega⟩ (Nat.le_of_ble_eq_true rfl) ?_
      rintro _ _ ⟨rfl, hy⟩
      obtain rfl := hy.symm
      dsimp only [Option.toList, List.cons_append, List.nil_append]
      refine g_if_eq h 72 dX5_checkAccess_46 (by decide) (fun c_46 => ?_) (fun c_46 => ?_)
      · skip
        exact (hac ⟨c_8, c_28, by first | exact Or.inl c_46 | exact Or.inr c_59⟩).elim
      · skip
        refine g_aload_n h 0 dX5_checkAccess_49 rfl rfl ?_
        refine g_aload_n h 0 dX5_checkAccess_50 rfl rfl ?_
        refine g_get (C := RX0) (T := TX0) (N := 14) h 6 (wat_C E _ (by omega)) rfl in_X5_checkAccess_X0 (by decide) lk_X5_checkAccess_132 rfl rfl dX5_checkAccess_51 ?_
        refine g_iconst (v := nI 0) h dX5_checkAccess_54 (by decide) ?_
        refine g_iald (n := 4) h (wat_A4 E _ (by omega)) (by omega) (by decide) dX5_checkAccess_55 ?_
        refine g_eqi (hV.AC _ _ _) ?_
        refine g_eqi (hu.1) ?_
        refine g_callV (As := [.int (nI (nat (v.x.AC i 3 0)))]) (C := RX0) h 1 (c_X0_lacksVictimRoomFor l E _ _ _ _ hV i (nat (v.x.AC i 3 0)) (by omega) (by omega)) rfl gX5_checkAccess_X0_lacksVictimRoomFor rfl rfl rfl rfl (by decide +kernel) ⟨Nat.le_of_ble_eq_true rfl, Nat.le_of_ble_eq_true rfl⟩ (wat_C E _ (by omega)) rfl rfl dX5_checkAccess_56 ⟨by dsimp only; omega, by dsimp only; omega⟩ (Nat.le_of_ble_eq_true rfl) ?_
        rintro _ _ ⟨rfl, hy⟩
        obtain rfl := hy.symm
        dsimp only [Option.toList, List.cons_append, List.nil_append]
        refine g_if_eq h 72 dX5_checkAccess_59 (by decide) (fun c_59 => ?_) (fun c_59 => ?_)
        · skip
          exact (hac ⟨c_8, c_28, by first | exact Or.inl c_46 | exact Or.inr c_59⟩).elim
        · skip
          exact g_throwS (EX := "java/lang/IllegalStateException") (text := "the victim buffer has no room") (names := ["java/lang/RuntimeException", "java/lang/Exception"]) (ik := 49) (is := 113) (ic := 53) h hlt hk hx 5 rfl (by decide +kernel) (by decide +kernel) (by decide +kernel) (by decide +kernel) (by decide +kernel) (by decide +kernel) (by decide +kernel) (by decide +kernel) dX5_checkAccess_62 dX5_checkAccess_65 dX5_checkAccess_66 dX5_checkAccess_68 dX5_checkAccess_71 (Nat.le_of_ble_eq_true rfl) (Nat.le_of_ble_eq_true rfl) (by dsimp only; omega) (by dsimp only; omega) (by omega) (by omega)
    · skip
      exact g_throwS (EX := "java/lang/IllegalStateException") (text := "the line is in the victim buffer") (names := ["java/lang/RuntimeException", "java/lang/Exception"]) (ik := 49) (is := 223) (ic := 53) h hlt hk hx 13 rfl (by decide +kernel) (by decide +kernel) (by decide +kernel) (by decide +kernel) (by decide +kernel) (by decide +kernel) (by decide +kernel) (by decide +kernel) dX5_checkAccess_31 dX5_checkAccess_34 dX5_checkAccess_35 dX5_checkAccess_37 dX5_checkAccess_40 (Nat.le_of_ble_eq_true rfl) (Nat.le_of_ble_eq_true rfl) (by dsimp only; omega) (by dsimp only; omega) (by omega) (by omega)
  · skip
    exact g_throwS (EX := "java/lang/IllegalStateException") (text := "a request of this cache is open") (names := ["java/lang/RuntimeException", "java/lang/Exception"]) (ik := 49) (is := 221) (ic := 53) h hlt hk hx 12 rfl (by decide +kernel) (by decide +kernel) (by decide +kernel) (by decide +kernel) (by decide +kernel) (by decide +kernel) (by decide +kernel) (by decide +kernel) dX5_checkAccess_11 dX5_checkAccess_14 dX5_checkAccess_15 dX5_checkAccess_17 dX5_checkAccess_20 (Nat.le_of_ble_eq_true rfl) (Nat.le_of_ble_eq_true rfl) (by dsimp only; omega) (by dsimp only; omega) (by omega) (by omega)
set_option maxRecDepth 100000 in
set_option maxHeartbeats 400000 in
theorem t_X5_evict_t (l : Launch) (E : gE) (x : St) (hlt : l.stackTraces = false) (v : Vw) (hs : List (Nat × M7)) (hV : VW x v [] hs) (i : Nat) (j : Nat) (hi : i < 4) (hj : j < 16) (hh : nI (r_X0_holds v i j) = 0) : Tr l yX5_evict wsX5_evict { frames := 7, cells := 1, slots := 6, locals := 131 } E [.ref (aD E), .int (nI i), .int (nI j)] x "java/util/NoSuchElementException" 1 6 := by
  refine Tr.of (cc := cX5_evict) (nL := 5) (ret := (some .int)) (by decide) rfl (Nat.le_of_ble_eq_true rfl) ?_
  intro p e s m args below meth c h hk hx
  refine g_lvs (lv' := [(0, _), (1, _), (2, _)]) rfl ?_
  refine g_aload_n h 0 dX5_evict_0 rfl rfl ?_
  refine g_iload_n h 1 dX5_evict_1 rfl rfl ?_
  refine g_callV (As := [.int (nI i)]) (C := RX5) h 1 (c_X5_cacheAt l E _ i (by omega)) rfl gX5_evict_X5_cacheAt rfl rfl rfl rfl (by decide +kernel) ⟨Nat.le_of_ble_eq_true rfl, Nat.le_of_ble_eq_true rfl⟩ (wat_D E _) rfl rfl dX5_evict_2 ⟨by dsimp only; omega, by dsimp only; omega⟩ (Nat.le_of_ble_eq_true rfl) ?_
  rintro _ _ ⟨rfl, hy⟩
  obtain rfl := hy.symm
  dsimp only [Option.toList, List.cons_append, List.nil_append]
  refine g_astore_n (lv' := [(0, _), (1, _), (2, _), (3, _)]) h [1, 2, 3, 0] dX5_evict_5 rfl (by decide) rfl ?_
  refine g_iload_n h 2 dX5_evict_6 rfl rfl ?_
  refine g_callS (As := [.int (nI j)]) h 1 (c_X5_checkLine l E _ j (by omega)) rfl gX5_evict_X5_checkLine rfl rfl rfl rfl (by decide +kernel) ⟨Nat.le_of_ble_eq_true rfl, Nat.le_of_ble_eq_true rfl⟩ dX5_evict_7 ⟨by dsimp only; omega, by dsimp only; omega⟩ (Nat.le_of_ble_eq_true rfl) ?_
  rintro _ _ ⟨rfl, hy⟩
  obtain rfl := hy.symm
  dsimp only [Option.toList, List.cons_append, List.nil_append]
  refine g_aload_n h 3 dX5_evict_10 rfl rfl ?_
  refine g_iload_n h 2 dX5_evict_11 rfl rfl ?_
  exact g_callSX (As := [.ref (aC E i), .int (nI j)]) h hk hx 2 (t_X5_checkHeld l E x hlt v hs hV i j hi hj hh) rfl gX5_evict_X5_checkHeld rfl rfl rfl rfl (by decide +kernel) ⟨Nat.le_of_ble_eq_true rfl, Nat.le_of_ble_eq_true rfl⟩ dX5_evict_12 ⟨by dsimp only; omega, by dsimp only; omega⟩ (Nat.le_of_ble_eq_true rfl) (by omega) (by omega)
set_option maxRecDepth 100000 in
set_option maxHeartbeats 400000 in
theorem t_X5_evict_s (l : Launch) (E : gE) (x : St) (hlt : l.stackTraces = false) (v : Vw) (hs : List (Nat × M7)) (hV : VW x v [] hs) (i : Nat) (j : Nat) (hi : i < 4) (hj : j < 16) (hh : ¬ nI (r_X0_holds v i j) = 0) (he : ¬ (¬ v.x.FR i 0 = nI j ∧ nI (r_X0_lacksVictimRoomFor v i j) = 0)) : Tr l yX5_evict wsX5_evict { frames := 7, cells := 1, slots := 6, locals := 131 } E [.ref (aD E), .int (nI i), .int (nI j)] x "java/lang/IllegalStateException" 1 6 := by
  refine Tr.of (cc := cX5_evict) (nL := 5) (ret := (some .int)) (by decide) rfl (Nat.le_of_ble_eq_true rfl) ?_
  intro p e s m args below meth c h hk hx
  refine g_lvs (lv' := [(0, _), (1, _), (2, _)]) rfl ?_
  refine g_aload_n h 0 dX5_evict_0 rfl rfl ?_
  refine g_iload_n h 1 dX5_evict_1 rfl rfl ?_
  refine g_callV (As := [.int (nI i)]) (C := RX5) h 1 (c_X5_cacheAt l E _ i (by omega)) rfl gX5_evict_X5_cacheAt rfl rfl rfl rfl (by decide +kernel) ⟨Nat.le_of_ble_eq_true rfl, Nat.le_of_ble_eq_true rfl⟩ (wat_D E _) rfl rfl dX5_evict_2 ⟨by dsimp only; omega, by dsimp only; omega⟩ (Nat.le_of_ble_eq_true rfl) ?_
  rintro _ _ ⟨rfl, hy⟩
  obtain rfl := hy.symm
  dsimp only [Option.toList, List.cons_append, List.nil_append]
  refine g_astore_n (lv' := [(0, _), (1, _), (2, _), (3, _)]) h [1, 2, 3, 0] dX5_evict_5 rfl (by decide) rfl ?_
  refine g_iload_n h 2 dX5_evict_6 rfl rfl ?_
  refine g_callS (As := [.int (nI j)]) h 1 (c_X5_checkLine l E _ j (by omega)) rfl gX5_evict_X5_checkLine rfl rfl rfl rfl (by decide +kernel) ⟨Nat.le_of_ble_eq_true rfl, Nat.le_of_ble_eq_true rfl⟩ dX5_evict_7 ⟨by dsimp only; omega, by dsimp only; omega⟩ (Nat.le_of_ble_eq_true rfl) ?_
  rintro _ _ ⟨rfl, hy⟩
  obtain rfl := hy.symm
  dsimp only [Option.toList, List.cons_append, List.nil_append]
  refine g_aload_n h 3 dX5_evict_10 rfl rfl ?_
  refine g_iload_n h 2 dX5_evict_11 rfl rfl ?_
  refine g_callS (As := [.ref (aC E i), .int (nI j)]) h 2 (c_X5_checkHeld l E _ _ _ hV i j hi hj hh) rfl gX5_evict_X5_checkHeld rfl rfl rfl rfl (by decide +kernel) ⟨Nat.le_of_ble_eq_true rfl, Nat.le_of_ble_eq_true rfl⟩ dX5_evict_12 ⟨by dsimp only; omega, by dsimp only; omega⟩ (Nat.le_of_ble_eq_true rfl) ?_
  rintro _ _ ⟨rfl, hy⟩
  obtain rfl := hy.symm
  dsimp only [Option.toList, List.cons_append, List.nil_append]
  refine g_aload_n h 3 dX5_evict_15 rfl rfl ?_
  refine g_get (C := RX0) (T := TX0) (N := 14) h 2 (wat_C E _ (by omega)) rfl in_X5_evict_X0 (by decide) lk_X5_evict_99 rfl rfl dX5_evict_16 ?_
  refine g_get (C := RX4) (T := TX4) (N := 7) h 0 (wat_R E _ (by omega)) rfl in_X5_evict_X4 (by decide) lk_X5_evict_103 rfl rfl dX5_evict_19 ?_
  refine g_eqi (hV.FR _ _) ?_
  refine g_iload_n h 2 dX5_evict_22 rfl rfl ?_
  refine g_icmp_ne h 36 dX5_evict_23 (by decide) (fun c_23 => ?_) (fun c_23 => ?_)
  · skip
    refine g_aload_n h 3 dX5_evict_36 rfl rfl ?_
    refine g_iload_n h 2 dX5_evict_37 rfl rfl ?_
    refine g_callV (As := [.int (nI j)]) (C := RX0) h 1 (c_X0_lacksVictimRoomFor l E _ _ _ _ hV i j (by omega) (by omega)) rfl gX5_evict_X0_lacksVictimRoomFor rfl rfl rfl rfl (by decide +kernel) ⟨Nat.le_of_ble_eq_true rfl, Nat.le_of_ble_eq_true rfl⟩ (wat_C E _ (by omega)) rfl rfl dX5_evict_38 ⟨by dsimp only; omega, by dsimp only; omega⟩ (Nat.le_of_ble_eq_true rfl) ?_
    rintro _ _ ⟨rfl, hy⟩
    obtain rfl := hy.symm
    dsimp only [Option.toList, List.cons_append, List.nil_append]
    refine g_if_eq h 54 dX5_evict_41 (by decide) (fun c_41 => ?_) (fun c_41 => ?_)
    · skip
      exact (he ⟨c_23, c_41⟩).elim
    · skip
      exact g_throwS (EX := "java/lang/IllegalStateException") (text := "the victim buffer has no room") (names := ["java/lang/RuntimeException", "java/lang/Exception"]) (ik := 49) (is := 113) (ic := 53) h hlt hk hx 5 rfl (by decide +kernel) (by decide +kernel) (by decide +kernel) (by decide +kernel) (by decide +kernel) (by decide +kernel) (by decide +kernel) (by decide +kernel) dX5_evict_44 dX5_evict_47 dX5_evict_48 dX5_evict_50 dX5_evict_53 (Nat.le_of_ble_eq_true rfl) (Nat.le_of_ble_eq_true rfl) (by dsimp only; omega) (by dsimp only; omega) (by omega) (by omega)
  · skip
    exact g_throwS (EX := "java/lang/IllegalStateException") (text := "a request for this line is open") (names := ["java/lang/RuntimeException", "java/lang/Exception"]) (ik := 49) (is := 108) (ic := 53) h hlt hk hx 4 rfl (by decide +kernel) (by decide +kernel) (by decide +kernel) (by decide +kernel) (by decide +kernel) (by decide +kernel) (by decide +kernel) (by decide +kernel) dX5_evict_26 dX5_evict_29 dX5_evict_30 dX5_evict_32 dX5_evict_35 (Nat.le_of_ble_eq_true rfl) (Nat.le_of_ble_eq_true rfl) (by dsimp only; omega) (by dsimp only; omega) (by omega) (by omega)
set_option maxRecDepth 100000 in
set_option maxHeartbeats 400000 in
theorem t_X5_read_s (l : Launch) (E : gE) (x : St) (hlt : l.stackTraces = false) (v : Vw) (hs : List (Nat × M7)) (hV : VW x v [] hs) (i : Nat) (j : Nat) (hi : i < 4) (hj : j < 16) (hu : v.x.AC i 3 0 = nI (nat (v.x.AC i 3 0)) ∧ nat (v.x.AC i 3 0) < 16) (hac : ¬ (v.x.FR i 0 = -1 ∧ v.x.AC i 2 j = -1 ∧ (nI (r_X0_needsWayFor v i j) = 0 ∨ nI (r_X0_lacksVictimRoomFor v i (nat (v.x.AC i 3 0))) = 0))) : Tr l yX5_read wsX5_read { frames := 7, cells := 1, slots := 6, locals := 131 } E [.ref (aD E), .int (nI i), .int (nI j)] x "java/lang/IllegalStateException" 1 6 := by
  refine Tr.of (cc := cX5_read) (nL := 4) (ret := (some .int)) (by decide) rfl (Nat.le_of_ble_eq_true rfl) ?_
  intro p e s m args below meth c h hk hx
  refine g_lvs (lv' := [(0, _), (1, _), (2, _)]) rfl ?_
  refine g_aload_n h 0 dX5_read_0 rfl rfl ?_
  refine g_iload_n h 1 dX5_read_1 rfl rfl ?_
  refine g_callV (As := [.int (nI i)]) (C := RX5) h 1 (c_X5_cacheAt l E _ i (by omega)) rfl gX5_read_X5_cacheAt rfl rfl rfl rfl (by decide +kernel) ⟨Nat.le_of_ble_eq_true rfl, Nat.le_of_ble_eq_true rfl⟩ (wat_D E _) rfl rfl dX5_read_2 ⟨by dsimp only; omega, by dsimp only; omega⟩ (Nat.le_of_ble_eq_true rfl) ?_
  rintro _ _ ⟨rfl, hy⟩
  obtain rfl := hy.symm
  dsimp only [Option.toList, List.cons_append, List.nil_append]
  refine g_astore_n (lv' := [(0, _), (1, _), (2, _), (3, _)]) h [1, 2, 3, 0] dX5_read_5 rfl (by decide) rfl ?_
  refine g_iload_n h 2 dX5_read_6 rfl rfl ?_
  refine g_callS (As := [.int (nI j)]) h 1 (c_X5_checkLine l E _ j (by omega)) rfl gX5_read_X5_checkLine rfl rfl rfl rfl (by decide +kernel) ⟨Nat.le_of_ble_eq_true rfl, Nat.le_of_ble_eq_true rfl⟩ dX5_read_7 ⟨by dsimp only; omega, by dsimp only; omega⟩ (Nat.le_of_ble_eq_true rfl) ?_
  rintro _ _ ⟨rfl, hy⟩
  obtain rfl := hy.symm
  dsimp only [Option.toList, List.cons_append, List.nil_append]
  refine g_aload_n h 3 dX5_read_10 rfl rfl ?_
  refine g_iload_n h 2 dX5_read_11 rfl rfl ?_
  exact g_callSX (As := [.ref (aC E i), .int (nI j)]) h hk hx 2 (t_X5_checkAccess l E x hlt v hs hV i j hi hj hu hac) rfl gX5_read_X5_checkAccess rfl rfl rfl rfl (by decide +kernel) ⟨Nat.le_of_ble_eq_true rfl, Nat.le_of_ble_eq_true rfl⟩ dX5_read_12 ⟨by dsimp only; omega, by dsimp only; omega⟩ (Nat.le_of_ble_eq_true rfl) (by omega) (by omega)
set_option maxRecDepth 100000 in
set_option maxHeartbeats 400000 in
theorem t_X5_write_s (l : Launch) (E : gE) (x : St) (hlt : l.stackTraces = false) (v : Vw) (hs : List (Nat × M7)) (hV : VW x v [] hs) (i : Nat) (j : Nat) (w : Nat) (hi : i < 4) (hj : j < 16) (hw : w ≤ 9999) (hu : v.x.AC i 3 0 = nI (nat (v.x.AC i 3 0)) ∧ nat (v.x.AC i 3 0) < 16) (hac : ¬ (v.x.FR i 0 = -1 ∧ v.x.AC i 2 j = -1 ∧ (nI (r_X0_needsWayFor v i j) = 0 ∨ nI (r_X0_lacksVictimRoomFor v i (nat (v.x.AC i 3 0))) = 0))) : Tr l yX5_write wsX5_write { frames := 7, cells := 1, slots := 6, locals := 131 } E [.ref (aD E), .int (nI i), .int (nI j), .int (nI w)] x "java/lang/IllegalStateException" 1 6 := by
  refine Tr.of (cc := cX5_write) (nL := 5) (ret := (some .boolean)) (by decide) rfl (Nat.le_of_ble_eq_true rfl) ?_
  intro p e s m args below meth c h hk hx
  refine g_lvs (lv' := [(0, _), (1, _), (2, _), (3, _)]) rfl ?_
  refine g_aload_n h 0 dX5_write_0 rfl rfl ?_
  refine g_iload_n h 1 dX5_write_1 rfl rfl ?_
  refine g_callV (As := [.int (nI i)]) (C := RX5) h 1 (c_X5_cacheAt l E _ i (by omega)) rfl gX5_write_X5_cacheAt rfl rfl rfl rfl (by decide +kernel) ⟨Nat.le_of_ble_eq_true rfl, Nat.le_of_ble_eq_true rfl⟩ (wat_D E _) rfl rfl dX5_write_2 ⟨by dsimp only; omega, by dsimp only; omega⟩ (Nat.le_of_ble_eq_true rfl) ?_
  rintro _ _ ⟨rfl, hy⟩
  obtain rfl := hy.symm
  dsimp only [Option.toList, List.cons_append, List.nil_append]
  refine g_astore (lv' := [(0, _), (1, _), (2, _), (3, _), (4, _)]) h [1, 2, 3, 4, 0] dX5_write_5 (by decide) rfl ?_
  refine g_iload_n h 2 dX5_write_7 rfl rfl ?_
  refine g_callS (As := [.int (nI j)]) h 1 (c_X5_checkLine l E _ j (by omega)) rfl gX5_write_X5_checkLine rfl rfl rfl rfl (by decide +kernel) ⟨Nat.le_of_ble_eq_true rfl, Nat.le_of_ble_eq_true rfl⟩ dX5_write_8 ⟨by dsimp only; omega, by dsimp only; omega⟩ (Nat.le_of_ble_eq_true rfl) ?_
  rintro _ _ ⟨rfl, hy⟩
  obtain rfl := hy.symm
  dsimp only [Option.toList, List.cons_append, List.nil_append]
  refine g_iload_n h 3 dX5_write_11 rfl rfl ?_
  refine g_if_lt h 22 dX5_write_12 (by decide) (fun c_12 => absurd c_12 (nI_pos (by omega))) (fun c_12 => ?_)
  refine g_iload_n h 3 dX5_write_15 rfl rfl ?_
  refine g_sipush (v := nI 9999) h dX5_write_16 (by decide) ?_
  refine g_icmp_leN h 32 dX5_write_19 (by decide) (by omega) (by omega) (fun c_19 => ?_) (fun c_19 => absurd c_19 (by omega))
  refine g_aload h 4 dX5_write_32 rfl ?_
  refine g_iload_n h 2 dX5_write_34 rfl rfl ?_
  exact g_callSX (As := [.ref (aC E i), .int (nI j)]) h hk hx 2 (t_X5_checkAccess l E x hlt v hs hV i j hi hj hu hac) rfl gX5_write_X5_checkAccess rfl rfl rfl rfl (by decide +kernel) ⟨Nat.le_of_ble_eq_true rfl, Nat.le_of_ble_eq_true rfl⟩ dX5_write_35 ⟨by dsimp only; omega, by dsimp only; omega⟩ (Nat.le_of_ble_eq_true rfl) (by omega) (by omega)
