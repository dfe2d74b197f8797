set_option maxRecDepth 100000 in
set_option maxHeartbeats 400000 in
theorem t_X5_cacheAt (l : Launch) (E : gE) (x : St) (hlt : l.stackTraces = false) (w : Int32) (hb : badC w) : Tr l yX5_cacheAt wsX5_cacheAt { frames := 6, cells := 1, slots := 6, locals := 110 } E [.ref (aD E), .int w] x "java/lang/IndexOutOfBoundsException" 1 6 := by
  refine Tr.of (cc := cX5_cacheAt) (nL := 2) (ret := (some (.object "CacheDirectory$Cache"))) (by decide) rfl (Nat.le_of_ble_eq_true rfl) ?_
  intro p e s m args below meth c h hk hx
  refine g_lvs (lv' := [(0, _), (1, _)]) rfl ?_
  refine g_iload_n h 1 dX5_cacheAt_0 rfl rfl ?_
  refine g_if_lt h 9 dX5_cacheAt_1 (by decide) (fun c_1 => ?_) (fun c_1 => ?_)
  · skip
    exact g_throwS (EX := "java/lang/IndexOutOfBoundsException") (text := "there is no such cache") (names := ["java/lang/RuntimeException", "java/lang/Exception"]) (ik := 210) (is := 212) (ic := 214) h hlt hk hx 8 rfl (by decide +kernel) (by decide +kernel) (by decide +kernel) (by decide +kernel) (by decide +kernel) (by decide +kernel) (by decide +kernel) (by decide +kernel) dX5_cacheAt_9 dX5_cacheAt_12 dX5_cacheAt_13 dX5_cacheAt_15 dX5_cacheAt_18 (Nat.le_of_ble_eq_true rfl) (Nat.le_of_ble_eq_true rfl) (by dsimp only; omega) (by dsimp only; omega) (by omega) (by omega)
  · skip
    refine g_iload_n h 1 dX5_cacheAt_4 rfl rfl ?_
    refine g_iconst (v := nI 4) h dX5_cacheAt_5 (by decide) ?_
    refine g_icmp_lt h 19 dX5_cacheAt_6 (by decide) (fun c_6 => ?_) (fun c_6 => ?_)
    · skip
      exact (hb.elim c_1 (fun z => absurd c_6 (Int32.not_lt.mpr z))).elim
    · skip
      exact g_throwS (EX := "java/lang/IndexOutOfBoundsException") (text := "there is no such cache") (names := ["java/lang/RuntimeException", "java/lang/Exception"]) (ik := 210) (is := 212) (ic := 214) h hlt hk hx 8 rfl (by decide +kernel) (by decide +kernel) (by decide +kernel) (by decide +kernel) (by decide +kernel) (by decide +kernel) (by decide +kernel) (by decide +kernel) dX5_cacheAt_9 dX5_cacheAt_12 dX5_cacheAt_13 dX5_cacheAt_15 dX5_cacheAt_18 (Nat.le_of_ble_eq_true rfl) (Nat.le_of_ble_eq_true rfl) (by dsimp only; omega) (by dsimp only; omega) (by omega) (by omega)
set_option maxRecDepth 100000 in
set_option maxHeartbeats 400000 in
theorem t_X5_checkLine (l : Launch) (E : gE) (x : St) (hlt : l.stackTraces = false) (w : Int32) (hb : badL w) : Tr l yX5_checkLine wsX5_checkLine { frames := 6, cells := 1, slots := 6, locals := 110 } E [.int w] x "java/lang/IndexOutOfBoundsException" 1 6 := by
  refine Tr.of (cc := cX5_checkLine) (nL := 1) (ret := none) (by decide) rfl (Nat.le_of_ble_eq_true rfl) ?_
  intro p e s m args below meth c h hk hx
  refine g_lvs (lv' := [(0, _)]) rfl ?_
  refine g_iload_n h 0 dX5_checkLine_0 rfl rfl ?_
  refine g_if_lt h 10 dX5_checkLine_1 (by decide) (fun c_1 => ?_) (fun c_1 => ?_)
  · skip
    exact g_throwS (EX := "java/lang/IndexOutOfBoundsException") (text := "there is no such line") (names := ["java/lang/RuntimeException", "java/lang/Exception"]) (ik := 210) (is := 217) (ic := 214) h hlt hk hx 10 rfl (by decide +kernel) (by decide +kernel) (by decide +kernel) (by decide +kernel) (by decide +kernel) (by decide +kernel) (by decide +kernel) (by decide +kernel) dX5_checkLine_10 dX5_checkLine_13 dX5_checkLine_14 dX5_checkLine_16 dX5_checkLine_19 (Nat.le_of_ble_eq_true rfl) (Nat.le_of_ble_eq_true rfl) (by dsimp only; omega) (by dsimp only; omega) (by omega) (by omega)
  · skip
    refine g_iload_n h 0 dX5_checkLine_4 rfl rfl ?_
    refine g_bipush (v := nI 16) h dX5_checkLine_5 (by decide) ?_
    refine g_icmp_lt h 20 dX5_checkLine_7 (by decide) (fun c_7 => ?_) (fun c_7 => ?_)
    · skip
      exact (hb.elim c_1 (fun z => absurd c_7 (Int32.not_lt.mpr z))).elim
    · skip
      exact g_throwS (EX := "java/lang/IndexOutOfBoundsException") (text := "there is no such line") (names := ["java/lang/RuntimeException", "java/lang/Exception"]) (ik := 210) (is := 217) (ic := 214) h hlt hk hx 10 rfl (by decide +kernel) (by decide +kernel) (by decide +kernel) (by decide +kernel) (by decide +kernel) (by decide +kernel) (by decide +kernel) (by decide +kernel) dX5_checkLine_10 dX5_checkLine_13 dX5_checkLine_14 dX5_checkLine_16 dX5_checkLine_19 (Nat.le_of_ble_eq_true rfl) (Nat.le_of_ble_eq_true rfl) (by dsimp only; omega) (by dsimp only; omega) (by omega) (by omega)
set_option maxRecDepth 100000 in
set_option maxHeartbeats 400000 in
theorem t_X5_homeOf (l : Launch) (E : gE) (x : St) (hlt : l.stackTraces = false) (w : Int32) (hb : badL w) : Tr l yX5_homeOf wsX5_homeOf { frames := 7, cells := 1, slots := 6, locals := 130 } E [.ref (aD E), .int w] x "java/lang/IndexOutOfBoundsException" 1 6 := by
  refine Tr.of (cc := cX5_homeOf) (nL := 2) (ret := (some (.object "CacheDirectory$Home"))) (by decide) rfl (Nat.le_of_ble_eq_true rfl) ?_
  intro p e s m args below meth c h hk hx
  refine g_lvs (lv' := [(0, _), (1, _)]) rfl ?_
  refine g_iload_n h 1 dX5_homeOf_0 rfl rfl ?_
  exact g_callSX (As := [.int _]) h hk hx 1 (t_X5_checkLine l E x hlt w hb) rfl gX5_homeOf_X5_checkLine rfl rfl rfl rfl (by decide +kernel) ⟨Nat.le_of_ble_eq_true rfl, Nat.le_of_ble_eq_true rfl⟩ dX5_homeOf_1 ⟨by dsimp only; omega, by dsimp only; omega⟩ (Nat.le_of_ble_eq_true rfl) (by omega) (by omega)
set_option maxRecDepth 100000 in
set_option maxHeartbeats 400000 in
theorem t_X5_messageAt (l : Launch) (E : gE) (x : St) (hlt : l.stackTraces = false) (v : Vw) (hs : List (Nat × M7)) (hV : VW x v [] hs) (w : Int32) (hb : w < 0 ∨ nI (v.q 16).length ≤ w) : Tr l yX5_messageAt wsX5_messageAt { frames := 6, cells := 1, slots := 6, locals := 110 } E [.ref (aD E), .int w] x "java/lang/IndexOutOfBoundsException" 1 6 := by
  refine Tr.of (cc := cX5_messageAt) (nL := 2) (ret := (some (.object "CacheDirectory$Message"))) (by decide) rfl (Nat.le_of_ble_eq_true rfl) ?_
  intro p e s m args below meth c h hk hx
  refine g_lvs (lv' := [(0, _), (1, _)]) rfl ?_
  have hsz := (hV.size (j := 16) (by omega)).2
  refine g_iload_n h 1 dX5_messageAt_0 rfl rfl ?_
  refine g_if_lt h 18 dX5_messageAt_1 (by decide) (fun c_1 => ?_) (fun c_1 => ?_)
  · skip
    exact g_throwS (EX := "java/lang/IndexOutOfBoundsException") (text := "there is no such message") (names := ["java/lang/RuntimeException", "java/lang/Exception"]) (ik := 210) (is := 215) (ic := 214) h hlt hk hx 9 rfl (by decide +kernel) (by decide +kernel) (by decide +kernel) (by decide +kernel) (by decide +kernel) (by decide +kernel) (by decide +kernel) (by decide +kernel) dX5_messageAt_18 dX5_messageAt_21 dX5_messageAt_22 dX5_messageAt_24 dX5_messageAt_27 (Nat.le_of_ble_eq_true rfl) (Nat.le_of_ble_eq_true rfl) (by dsimp only; omega) (by dsimp only; omega) (by omega) (by omega)
  · skip
    refine g_iload_n h 1 dX5_messageAt_4 rfl rfl ?_
    refine g_aload_n h 0 dX5_messageAt_5 rfl rfl ?_
    refine g_get (C := RX5) (T := TX5) (N := 3) h 0 (wat_D E _) rfl in_X5_messageAt_X5 (by decide) lk_X5_messageAt_10 rfl rfl dX5_messageAt_6 ?_
    refine g_get (C := RX3) (T := TX3) (N := 1) h 0 (wat_N E _) rfl in_X5_messageAt_X3 (by decide) lk_X5_messageAt_162 rfl rfl dX5_messageAt_9 ?_
    refine g_callV (As := []) (C := RJx4a65c) h 0 (c_Jx4a65c_size_8abf5 l E _ 16 (by omega)) rfl gX5_messageAt_Jx4a65c_size_8abf5 rfl rfl rfl rfl (by decide +kernel) ⟨Nat.le_of_ble_eq_true rfl, Nat.le_of_ble_eq_true rfl⟩ (wat_L E _ (by omega)) rfl rfl dX5_messageAt_12 ⟨by dsimp only; omega, by dsimp only; omega⟩ (Nat.le_of_ble_eq_true rfl) ?_
    rintro _ _ ⟨rfl, hy⟩
    obtain rfl := hy.symm
    have s1 := hV.size (j := 16) (by omega)
    dsimp only [Option.toList, List.cons_append, List.nil_append]
    refine g_eqi s1.1 ?_
    refine g_icmp_lt h 28 dX5_messageAt_15 (by decide) (fun c_15 => ?_) (fun c_15 => ?_)
    · skip
      exact (hb.elim c_1 (fun z => absurd c_15 (Int32.not_lt.mpr z))).elim
    · skip
      exact g_throwS (EX := "java/lang/IndexOutOfBoundsException") (text := "there is no such message") (names := ["java/lang/RuntimeException", "java/lang/Exception"]) (ik := 210) (is := 215) (ic := 214) h hlt hk hx 9 rfl (by decide +kernel) (by decide +kernel) (by decide +kernel) (by decide +kernel) (by decide +kernel) (by decide +kernel) (by decide +kernel) (by decide +kernel) dX5_messageAt_18 dX5_messageAt_21 dX5_messageAt_22 dX5_messageAt_24 dX5_messageAt_27 (Nat.le_of_ble_eq_true rfl) (Nat.le_of_ble_eq_true rfl) (by dsimp only; omega) (by dsimp only; omega) (by omega) (by omega)
set_option maxRecDepth 100000 in
set_option maxHeartbeats 400000 in
theorem t_X5_checkHeld (l : Launch) (E : gE) (x : St) (hlt : l.stackTraces = false) (v : Vw) (hs : List (Nat × M7)) (hV : VW x v [] hs) (i : Nat) (j : Nat) (hi : i < 4) (hj : j < 16) (hh : nI (r_X0_holds v i j) = 0) : Tr l yX5_checkHeld wsX5_checkHeld { frames := 6, cells := 1, slots := 6, locals := 110 } E [.ref (aC E i), .int (nI j)] x "java/util/NoSuchElementException" 1 6 := by
  refine Tr.of (cc := cX5_checkHeld) (nL := 2) (ret := none) (by decide) rfl (Nat.le_of_ble_eq_true rfl) ?_
  intro p e s m args below meth c h hk hx
  refine g_lvs (lv' := [(0, _), (1, _)]) rfl ?_
  refine g_aload_n h 0 dX5_checkHeld_0 rfl rfl ?_
  refine g_iload_n h 1 dX5_checkHeld_1 rfl rfl ?_
  refine g_callV (As := [.int (nI j)]) (C := RX0) h 1 (c_X0_holds l E _ _ _ _ hV i j (by omega) (by omega)) rfl gX5_checkHeld_X0_holds rfl rfl rfl rfl (by decide +kernel) ⟨Nat.le_of_ble_eq_true rfl, Nat.le_of_ble_eq_true rfl⟩ (wat_C E _ (by omega)) rfl rfl dX5_checkHeld_2 ⟨by dsimp only; omega, by dsimp only; omega⟩ (Nat.le_of_ble_eq_true rfl) ?_
  rintro _ _ ⟨rfl, hy⟩
  obtain rfl := hy.symm
  dsimp only [Option.toList, List.cons_append, List.nil_append]
  refine g_if_ne h 18 dX5_checkHeld_5 (by decide) (fun c_5 => absurd c_5 (fun q => q hh)) (fun c_5 => ?_)
  exact g_throwN (EX := "java/util/NoSuchElementException") (text := "the line is not in the cache") (Y9 := "java/lang/RuntimeException") (r9 := ["java/lang/Exception"]) (ik := 127) (is := 219) (ic := 131) h hlt hk hx 11 rfl (by decide +kernel) (by decide +kernel) (by decide +kernel) (by decide +kernel) (by decide +kernel) (by decide +kernel) (by decide +kernel) (by decide +kernel) dX5_checkHeld_8 dX5_checkHeld_11 dX5_checkHeld_12 dX5_checkHeld_14 dX5_checkHeld_17 (Nat.le_of_ble_eq_true rfl) (Nat.le_of_ble_eq_true rfl) (by dsimp only; omega) (by dsimp only; omega) (by omega) (by omega)
set_option maxRecDepth 100000 in
set_option maxHeartbeats 400000 in
theorem t_X5_checkAccess (l : Launch) (E : gE) (x : St) (hlt : l.stackTraces = false) (v : Vw) (hs : List (Nat × M7)) (hV : VW x v [] hs) (i : Nat) (j : Nat) (hi : i < 4) (hj : j < 16) (hu : v.x.AC i 3 0 = nI (nat (v.x.AC i 3 0)) ∧ nat (v.x.AC i 3 0) < 16) (hac : ¬ (v.x.FR i 0 = -1 ∧ v.x.AC i 2 j = -1 ∧ (nI (r_X0_needsWayFor v i j) = 0 ∨ nI (r_X0_lacksVictimRoomFor v i (nat (v.x.AC i 3 0))) = 0))) : Tr l yX5_checkAccess wsX5_checkAccess { frames := 6, cells := 1, slots := 6, locals := 110 } E [.ref (aC E i), .int (nI j)] x "java/lang/IllegalStateException" 1 6 := by
  refine Tr.of (cc := cX5_checkAccess) (nL := 2) (ret := none) (by decide) rfl (Nat.le_of_ble_eq_true rfl) ?_
  intro p e s m args below meth c h hk hx
  refine g_lvs (lv' := [(0, _), (1, _)]) rfl ?_
  have hu2 := hu.2
  refine g_aload_n h 0 dX5_checkAccess_0 rfl rfl ?_
  refine g_get (C := RX0) (T := TX0) (N := 14) h 2 (wat_C E _ (by omega)) rfl in_X5_checkAccess_X0 (by decide) lk_X5_checkAccess_99 rfl rfl dX5_checkAccess_1 ?_
  refine g_get (C := RX4) (T := TX4) (N := 7) h 0 (wat_R E _ (by omega)) rfl in_X5_checkAccess_X4 (by decide) lk_X5_checkAccess_103 rfl rfl dX5_checkAccess_4 ?_
  refine g_eqi (hV.FR _ _) ?_
  refine g_iconst (v := -1) h dX5_checkAccess_7 (by decide) ?_
  refine g_icmp_eq h 21 dX5_checkAccess_8 (by decide) (fun c_8 => ?_) (fun c_8 => ?_)
  · skip
    refine g_aload_n h 0 dX5_checkAccess_21 rfl rfl ?_
    refine g_get (C := RX0) (T := TX0) (N := 14) h 5 (wat_C E _ (by omega)) rfl in_X5_checkAccess_X0 (by decide) lk_X5_checkAccess_118 rfl rfl dX5_checkAccess_22 ?_
    refine g_iload_n h 1 dX5_checkAccess_25 rfl rfl ?_
    refine g_iald (n := 16) h (wat_A16 E _ (by omega) (by decide)) (by omega) (by decide) dX5_checkAccess_26 ?_
    refine g_eqi (hV.AC _ _ _) ?_
    refine g_iconst (v := -1) h dX5_checkAccess_27 (by decide) ?_
    refine g_icmp_eq h 41 dX5_checkAccess_28 (by decide) (fun c_28 => ?_) (fun c_28 => ?_)
    · skip
      refine g_aload_n h 0 dX5_checkAccess_41 rfl rfl ?_
      refine g_iload_n h 1 dX5_checkAccess_42 rfl rfl ?_
      refine g_callV (As := [.int (nI j)]) (C := RX0) h 1 (c_X0_needsWayFor l E _ _ _ _ hV i j (by omega) (by omega)) rfl gX5_checkAccess_X0_needsWayFor rfl rfl rfl rfl (by decide +kernel) ⟨Nat.le_of_ble_eq_true rfl, Nat.le_of_ble_eq_true rfl⟩ (wat_C E _ (by omega)) rfl rfl dX5_checkAccess_43 ⟨by dsimp only; omega, by dsimp only; omega⟩ (Nat.le_of_ble_eq_true rfl) ?_
      rintro _ _ ⟨rfl, hy⟩
      obtain rfl := hy.symm
      dsimp only [Option.toList, List.cons_append, List.nil_append]
      refine g_if_eq h 72 dX5_checkAccess_46 (by decide) (fun c_46 => ?_) (fun c_46 => ?_)
      · skip
        exact (hac ⟨c_8, c_28, by first | exact Or.inl c_46 | exact Or.inr c_59⟩).elim
      · skip
        refine g_aload_n h 0 dX5_checkAccess_49 rfl rfl ?_
        refine g_aload_n h 0 dX5_checkAccess_50 rfl rfl ?_
        refine g_get (C := RX0) (T := TX0) (N := 14) h 6 (wat_C E _ (by omega)) rfl in_X5_checkAccess_X0 (by decide) lk_X5_checkAccess_132 rfl rfl dX5_checkAccess_51 ?_
        refine g_iconst (v := nI 0) h dX5_checkAccess_54 (by decide) ?_
        refine g_iald (n := 4) h (wat_A4 E _ (by omega)) (by omega) (by decide) dX5_checkAccess_55 ?_
        refine g_eqi (hV.AC _ _ _) ?_
        refine g_eqi (hu.1) ?_
        refine g_callV (As := [.int (nI (nat (v.x.AC i 3 0)))]) (C := RX0) h 1 (c_X0_lacksVictimRoomFor l E _ _ _ _ hV i (nat (v.x.AC i 3 0)) (by omega) (by omega)) rfl gX5_checkAccess_X0_lacksVictimRoomFor rfl rfl rfl rfl (by decide +kernel) ⟨Nat.le_of_ble_eq_true rfl, Nat.le_of_ble_eq_true rfl⟩ (wat_C E _ (by omega)) rfl rfl dX5_checkAccess_56 ⟨by dsimp only; omega, by dsimp only; omega⟩ (Nat.le_of_ble_eq_true rfl) ?_
        rintro _ _ ⟨rfl, hy⟩
        obtain rfl := hy.symm
        dsimp only [Option.toList, List.cons_append, List.nil_append]
        refine g_if_eq h 72 dX5_checkAccess_59 (by decide) (fun c_59 => ?_) (fun c_59 => ?_)
        · skip
          exact (hac ⟨c_8, c_28, by first | exact Or.inl c_46 | exact Or.inr c_59⟩).elim
        · skip
          exact g_throwS (EX := "java/lang/IllegalStateException") (text := "the victim buffer has no room") (names := ["java/lang/RuntimeException", "java/lang/Exception"]) (ik := 49) (is := 113) (ic := 53) h hlt hk hx 5 rfl (by decide +kernel) (by decide +kernel) (by decide +kernel) (by decide +kernel) (by decide +kernel) (by decide +kernel) (by decide +kernel) (by decide +kernel) dX5_checkAccess_62 dX5_checkAccess_65 dX5_checkAccess_66 dX5_checkAccess_68 dX5_checkAccess_71 (Nat.le_of_ble_eq_true rfl) (Nat.le_of_ble_eq_true rfl) (by dsimp only; omega) (by dsimp only; omega) (by omega) (by omega)
    · skip
      exact g_throwS (EX := "java/lang/IllegalStateException") (text := "the line is in the victim buffer") (names := ["java/lang/RuntimeException", "java/lang/Exception"]) (ik := 49) (is := 223) (ic := 53) h hlt hk hx 13 rfl (by decide +kernel) (by decide +kernel) (by decide +kernel) (by decide +kernel) (by decide +kernel) (by decide +kernel) (by decide +kernel) (by decide +kernel) dX5_checkAccess_31 dX5_checkAccess_34 dX5_checkAccess_35 dX5_checkAccess_37 dX5_checkAccess_40 (Nat.le_of_ble_eq_true rfl) (Nat.le_of_ble_eq_true rfl) (by dsimp only; omega) (by dsimp only; omega) (by omega) (by omega)
  · skip
    exact g_throwS (EX := "java/lang/IllegalStateException") (text := "a request of this cache is open") (names := ["java/lang/RuntimeException", "java/lang/Exception"]) (ik := 49) (is := 221) (ic := 53) h hlt hk hx 12 rfl (by decide +kernel) (by decide +kernel) (by decide +kernel) (by decide +kernel) (by decide +kernel) (by decide +kernel) (by decide +kernel) (by decide +kernel) dX5_checkAccess_11 dX5_checkAccess_14 dX5_checkAccess_15 dX5_checkAccess_17 dX5_checkAccess_20 (Nat.le_of_ble_eq_true rfl) (Nat.le_of_ble_eq_true rfl) (by dsimp only; omega) (by dsimp only; omega) (by omega) (by omega)
set_option maxRecDepth 100000 in
set_option maxHeartbeats 400000 in
theorem t_X5_openLine_bc (l : Launch) (E : gE) (x : St) (hlt : l.stackTraces = false) (w : Int32) (hb : badC w) : Tr l yX5_openLine wsX5_openLine { frames := 7, cells := 1, slots := 6, locals := 131 } E [.ref (aD E), .int w] x "java/lang/IndexOutOfBoundsException" 1 6 := by
  refine Tr.of (cc := cX5_openLine) (nL := 2) (ret := (some .int)) (by decide) rfl (Nat.le_of_ble_eq_true rfl) ?_
  intro p e s m args below meth c h hk hx
  refine g_lvs (lv' := [(0, _), (1, _)]) rfl ?_
  refine g_aload_n h 0 dX5_openLine_0 rfl rfl ?_
  refine g_iload_n h 1 dX5_openLine_1 rfl rfl ?_
  exact g_callVX (As := [.int _]) (C := RX5) h hk hx 1 (t_X5_cacheAt l E x hlt w hb) rfl gX5_openLine_X5_cacheAt rfl rfl rfl rfl (by decide +kernel) ⟨Nat.le_of_ble_eq_true rfl, Nat.le_of_ble_eq_true rfl⟩ (wat_D E _) rfl rfl dX5_openLine_2 ⟨by dsimp only; omega, by dsimp only; omega⟩ (Nat.le_of_ble_eq_true rfl) (by omega) (by omega)
set_option maxRecDepth 100000 in
set_option maxHeartbeats 400000 in
theorem t_X5_latestRead_bc (l : Launch) (E : gE) (x : St) (hlt : l.stackTraces = false) (w : Int32) (hb : badC w) : Tr l yX5_latestRead wsX5_latestRead { frames := 7, cells := 1, slots := 6, locals := 131 } E [.ref (aD E), .int w] x "java/lang/IndexOutOfBoundsException" 1 6 := by
  refine Tr.of (cc := cX5_latestRead) (nL := 2) (ret := (some .int)) (by decide) rfl (Nat.le_of_ble_eq_true rfl) ?_
  intro p e s m args below meth c h hk hx
  refine g_lvs (lv' := [(0, _), (1, _)]) rfl ?_
  refine g_aload_n h 0 dX5_latestRead_0 rfl rfl ?_
  refine g_iload_n h 1 dX5_latestRead_1 rfl rfl ?_
  exact g_callVX (As := [.int _]) (C := RX5) h hk hx 1 (t_X5_cacheAt l E x hlt w hb) rfl gX5_latestRead_X5_cacheAt rfl rfl rfl rfl (by decide +kernel) ⟨Nat.le_of_ble_eq_true rfl, Nat.le_of_ble_eq_true rfl⟩ (wat_D E _) rfl rfl dX5_latestRead_2 ⟨by dsimp only; omega, by dsimp only; omega⟩ (Nat.le_of_ble_eq_true rfl) (by omega) (by omega)
set_option maxRecDepth 100000 in
set_option maxHeartbeats 400000 in
theorem t_X5_hits_bc (l : Launch) (E : gE) (x : St) (hlt : l.stackTraces = false) (w : Int32) (hb : badC w) : Tr l yX5_hits wsX5_hits { frames := 7, cells := 1, slots := 6, locals := 131 } E [.ref (aD E), .int w] x "java/lang/IndexOutOfBoundsException" 1 6 := by
  refine Tr.of (cc := cX5_hits) (nL := 2) (ret := (some .int)) (by decide) rfl (Nat.le_of_ble_eq_true rfl) ?_
  intro p e s m args below meth c h hk hx
  refine g_lvs (lv' := [(0, _), (1, _)]) rfl ?_
  refine g_aload_n h 0 dX5_hits_0 rfl rfl ?_
  refine g_iload_n h 1 dX5_hits_1 rfl rfl ?_
  exact g_callVX (As := [.int _]) (C := RX5) h hk hx 1 (t_X5_cacheAt l E x hlt w hb) rfl gX5_hits_X5_cacheAt rfl rfl rfl rfl (by decide +kernel) ⟨Nat.le_of_ble_eq_true rfl, Nat.le_of_ble_eq_true rfl⟩ (wat_D E _) rfl rfl dX5_hits_2 ⟨by dsimp only; omega, by dsimp only; omega⟩ (Nat.le_of_ble_eq_true rfl) (by omega) (by omega)
set_option maxRecDepth 100000 in
set_option maxHeartbeats 400000 in
theorem t_X5_misses_bc (l : Launch) (E : gE) (x : St) (hlt : l.stackTraces = false) (w : Int32) (hb : badC w) : Tr l yX5_misses wsX5_misses { frames := 7, cells := 1, slots := 6, locals := 131 } E [.ref (aD E), .int w] x "java/lang/IndexOutOfBoundsException" 1 6 := by
  refine Tr.of (cc := cX5_misses) (nL := 2) (ret := (some .int)) (by decide) rfl (Nat.le_of_ble_eq_true rfl) ?_
  intro p e s m args below meth c h hk hx
  refine g_lvs (lv' := [(0, _), (1, _)]) rfl ?_
  refine g_aload_n h 0 dX5_misses_0 rfl rfl ?_
  refine g_iload_n h 1 dX5_misses_1 rfl rfl ?_
  exact g_callVX (As := [.int _]) (C := RX5) h hk hx 1 (t_X5_cacheAt l E x hlt w hb) rfl gX5_misses_X5_cacheAt rfl rfl rfl rfl (by decide +kernel) ⟨Nat.le_of_ble_eq_true rfl, Nat.le_of_ble_eq_true rfl⟩ (wat_D E _) rfl rfl dX5_misses_2 ⟨by dsimp only; omega, by dsimp only; omega⟩ (Nat.le_of_ble_eq_true rfl) (by omega) (by omega)
set_option maxRecDepth 100000 in
set_option maxHeartbeats 400000 in
theorem t_X5_owner_bl (l : Launch) (E : gE) (x : St) (hlt : l.stackTraces = false) (w : Int32) (hb : badL w) : Tr l yX5_owner wsX5_owner { frames := 8, cells := 1, slots := 6, locals := 151 } E [.ref (aD E), .int w] x "java/lang/IndexOutOfBoundsException" 1 6 := by
  refine Tr.of (cc := cX5_owner) (nL := 2) (ret := (some .int)) (by decide) rfl (Nat.le_of_ble_eq_true rfl) ?_
  intro p e s m args below meth c h hk hx
  refine g_lvs (lv' := [(0, _), (1, _)]) rfl ?_
  refine g_aload_n h 0 dX5_owner_0 rfl rfl ?_
  refine g_iload_n h 1 dX5_owner_1 rfl rfl ?_
  exact g_callVX (As := [.int _]) (C := RX5) h hk hx 1 (t_X5_homeOf l E x hlt w hb) rfl gX5_owner_X5_homeOf rfl rfl rfl rfl (by decide +kernel) ⟨Nat.le_of_ble_eq_true rfl, Nat.le_of_ble_eq_true rfl⟩ (wat_D E _) rfl rfl dX5_owner_2 ⟨by dsimp only; omega, by dsimp only; omega⟩ (Nat.le_of_ble_eq_true rfl) (by omega) (by omega)
set_option maxRecDepth 100000 in
set_option maxHeartbeats 400000 in
theorem t_X5_sharers_bl (l : Launch) (E : gE) (x : St) (hlt : l.stackTraces = false) (w : Int32) (hb : badL w) : Tr l yX5_sharers wsX5_sharers { frames := 8, cells := 1, slots := 6, locals := 151 } E [.ref (aD E), .int w] x "java/lang/IndexOutOfBoundsException" 1 6 := by
  refine Tr.of (cc := cX5_sharers) (nL := 2) (ret := (some .int)) (by decide) rfl (Nat.le_of_ble_eq_true rfl) ?_
  intro p e s m args below meth c h hk hx
  refine g_lvs (lv' := [(0, _), (1, _)]) rfl ?_
  refine g_aload_n h 0 dX5_sharers_0 rfl rfl ?_
  refine g_iload_n h 1 dX5_sharers_1 rfl rfl ?_
  exact g_callVX (As := [.int _]) (C := RX5) h hk hx 1 (t_X5_homeOf l E x hlt w hb) rfl gX5_sharers_X5_homeOf rfl rfl rfl rfl (by decide +kernel) ⟨Nat.le_of_ble_eq_true rfl, Nat.le_of_ble_eq_true rfl⟩ (wat_D E _) rfl rfl dX5_sharers_2 ⟨by dsimp only; omega, by dsimp only; omega⟩ (Nat.le_of_ble_eq_true rfl) (by omega) (by omega)
set_option maxRecDepth 100000 in
set_option maxHeartbeats 400000 in
theorem t_X5_isBusy_bl (l : Launch) (E : gE) (x : St) (hlt : l.stackTraces = false) (w : Int32) (hb : badL w) : Tr l yX5_isBusy wsX5_isBusy { frames := 8, cells := 1, slots := 6, locals := 151 } E [.ref (aD E), .int w] x "java/lang/IndexOutOfBoundsException" 1 6 := by
  refine Tr.of (cc := cX5_isBusy) (nL := 2) (ret := (some .boolean)) (by decide) rfl (Nat.le_of_ble_eq_true rfl) ?_
  intro p e s m args below meth c h hk hx
  refine g_lvs (lv' := [(0, _), (1, _)]) rfl ?_
  refine g_aload_n h 0 dX5_isBusy_0 rfl rfl ?_
  refine g_iload_n h 1 dX5_isBusy_1 rfl rfl ?_
  exact g_callVX (As := [.int _]) (C := RX5) h hk hx 1 (t_X5_homeOf l E x hlt w hb) rfl gX5_isBusy_X5_homeOf rfl rfl rfl rfl (by decide +kernel) ⟨Nat.le_of_ble_eq_true rfl, Nat.le_of_ble_eq_true rfl⟩ (wat_D E _) rfl rfl dX5_isBusy_2 ⟨by dsimp only; omega, by dsimp only; omega⟩ (Nat.le_of_ble_eq_true rfl) (by omega) (by omega)
set_option maxRecDepth 100000 in
set_option maxHeartbeats 400000 in
theorem t_X5_queued_bl (l : Launch) (E : gE) (x : St) (hlt : l.stackTraces = false) (w : Int32) (hb : badL w) : Tr l yX5_queued wsX5_queued { frames := 8, cells := 1, slots := 6, locals := 151 } E [.ref (aD E), .int w] x "java/lang/IndexOutOfBoundsException" 1 6 := by
  refine Tr.of (cc := cX5_queued) (nL := 2) (ret := (some .int)) (by decide) rfl (Nat.le_of_ble_eq_true rfl) ?_
  intro p e s m args below meth c h hk hx
  refine g_lvs (lv' := [(0, _), (1, _)]) rfl ?_
  refine g_aload_n h 0 dX5_queued_0 rfl rfl ?_
  refine g_iload_n h 1 dX5_queued_1 rfl rfl ?_
  exact g_callVX (As := [.int _]) (C := RX5) h hk hx 1 (t_X5_homeOf l E x hlt w hb) rfl gX5_queued_X5_homeOf rfl rfl rfl rfl (by decide +kernel) ⟨Nat.le_of_ble_eq_true rfl, Nat.le_of_ble_eq_true rfl⟩ (wat_D E _) rfl rfl dX5_queued_2 ⟨by dsimp only; omega, by dsimp only; omega⟩ (Nat.le_of_ble_eq_true rfl) (by omega) (by omega)
set_option maxRecDepth 100000 in
set_option maxHeartbeats 400000 in
theorem t_X5_memory_bl (l : Launch) (E : gE) (x : St) (hlt : l.stackTraces = false) (w : Int32) (hb : badL w) : Tr l yX5_memory wsX5_memory { frames := 8, cells := 1, slots := 6, locals := 151 } E [.ref (aD E), .int w] x "java/lang/IndexOutOfBoundsException" 1 6 := by
  refine Tr.of (cc := cX5_memory) (nL := 2) (ret := (some .int)) (by decide) rfl (Nat.le_of_ble_eq_true rfl) ?_
  intro p e s m args below meth c h hk hx
  refine g_lvs (lv' := [(0, _), (1, _)]) rfl ?_
  refine g_aload_n h 0 dX5_memory_0 rfl rfl ?_
  refine g_iload_n h 1 dX5_memory_1 rfl rfl ?_
  exact g_callVX (As := [.int _]) (C := RX5) h hk hx 1 (t_X5_homeOf l E x hlt w hb) rfl gX5_memory_X5_homeOf rfl rfl rfl rfl (by decide +kernel) ⟨Nat.le_of_ble_eq_true rfl, Nat.le_of_ble_eq_true rfl⟩ (wat_D E _) rfl rfl dX5_memory_2 ⟨by dsimp only; omega, by dsimp only; omega⟩ (Nat.le_of_ble_eq_true rfl) (by omega) (by omega)
set_option maxRecDepth 100000 in
set_option maxHeartbeats 400000 in
theorem t_X5_isInOrder_bl (l : Launch) (E : gE) (x : St) (hlt : l.stackTraces = false) (w : Int32) (hb : badL w) : Tr l yX5_isInOrder wsX5_isInOrder { frames := 7, cells := 1, slots := 6, locals := 130 } E [.ref (aD E), .int w] x "java/lang/IndexOutOfBoundsException" 1 6 := by
  refine Tr.of (cc := cX5_isInOrder) (nL := 8) (ret := (some .boolean)) (by decide) rfl (Nat.le_of_ble_eq_true rfl) ?_
  intro p e s m args below meth c h hk hx
  refine g_lvs (lv' := [(0, _), (1, _)]) rfl ?_
  refine g_iload_n h 1 dX5_isInOrder_0 rfl rfl ?_
  exact g_callSX (As := [.int _]) h hk hx 1 (t_X5_checkLine l E x hlt w hb) rfl gX5_isInOrder_X5_checkLine rfl rfl rfl rfl (by decide +kernel) ⟨Nat.le_of_ble_eq_true rfl, Nat.le_of_ble_eq_true rfl⟩ dX5_isInOrder_1 ⟨by dsimp only; omega, by dsimp only; omega⟩ (Nat.le_of_ble_eq_true rfl) (by omega) (by omega)
set_option maxRecDepth 100000 in
set_option maxHeartbeats 400000 in
theorem t_X5_state_bc (l : Launch) (E : gE) (x : St) (hlt : l.stackTraces = false) (w : Int32) (w2 : Int32) (hb : badC w) : Tr l yX5_state wsX5_state { frames := 7, cells := 1, slots := 6, locals := 131 } E [.ref (aD E), .int w, .int w2] x "java/lang/IndexOutOfBoundsException" 1 6 := by
  refine Tr.of (cc := cX5_state) (nL := 4) (ret := (some .int)) (by decide) rfl (Nat.le_of_ble_eq_true rfl) ?_
  intro p e s m args below meth c h hk hx
  refine g_lvs (lv' := [(0, _), (1, _), (2, _)]) rfl ?_
  refine g_aload_n h 0 dX5_state_0 rfl rfl ?_
  refine g_iload_n h 1 dX5_state_1 rfl rfl ?_
  exact g_callVX (As := [.int _]) (C := RX5) h hk hx 1 (t_X5_cacheAt l E x hlt w hb) rfl gX5_state_X5_cacheAt rfl rfl rfl rfl (by decide +kernel) ⟨Nat.le_of_ble_eq_true rfl, Nat.le_of_ble_eq_true rfl⟩ (wat_D E _) rfl rfl dX5_state_2 ⟨by dsimp only; omega, by dsimp only; omega⟩ (Nat.le_of_ble_eq_true rfl) (by omega) (by omega)
set_option maxRecDepth 100000 in
set_option maxHeartbeats 400000 in
theorem t_X5_state_bl (l : Launch) (E : gE) (x : St) (hlt : l.stackTraces = false) (i : Nat) (w : Int32) (hi : i < 4) (hb : badL w) : Tr l yX5_state wsX5_state { frames := 7, cells := 1, slots := 6, locals := 131 } E [.ref (aD E), .int (nI i), .int w] x "java/lang/IndexOutOfBoundsException" 1 6 := by
  refine Tr.of (cc := cX5_state) (nL := 4) (ret := (some .int)) (by decide) rfl (Nat.le_of_ble_eq_true rfl) ?_
  intro p e s m args below meth c h hk hx
  refine g_lvs (lv' := [(0, _), (1, _), (2, _)]) rfl ?_
  refine g_aload_n h 0 dX5_state_0 rfl rfl ?_
  refine g_iload_n h 1 dX5_state_1 rfl rfl ?_
  refine g_callV (As := [.int (nI i)]) (C := RX5) h 1 (c_X5_cacheAt l E _ i (by omega)) rfl gX5_state_X5_cacheAt rfl rfl rfl rfl (by decide +kernel) ⟨Nat.le_of_ble_eq_true rfl, Nat.le_of_ble_eq_true rfl⟩ (wat_D E _) rfl rfl dX5_state_2 ⟨by dsimp only; omega, by dsimp only; omega⟩ (Nat.le_of_ble_eq_true rfl) ?_
  rintro _ _ ⟨rfl, hy⟩
  obtain rfl := hy.symm
  dsimp only [Option.toList, List.cons_append, List.nil_append]
  refine g_astore_n (lv' := [(0, _), (1, _), (2, _), (3, _)]) h [1, 2, 3, 0] dX5_state_5 rfl (by decide) rfl ?_
  refine g_iload_n h 2 dX5_state_6 rfl rfl ?_
  exact g_callSX (As := [.int _]) h hk hx 1 (t_X5_checkLine l E x hlt w hb) rfl gX5_state_X5_checkLine rfl rfl rfl rfl (by decide +kernel) ⟨Nat.le_of_ble_eq_true rfl, Nat.le_of_ble_eq_true rfl⟩ dX5_state_7 ⟨by dsimp only; omega, by dsimp only; omega⟩ (Nat.le_of_ble_eq_true rfl) (by omega) (by omega)
set_option maxRecDepth 100000 in
set_option maxHeartbeats 400000 in
theorem t_X5_value_bc (l : Launch) (E : gE) (x : St) (hlt : l.stackTraces = false) (w : Int32) (w2 : Int32) (hb : badC w) : Tr l yX5_value wsX5_value { frames := 7, cells := 1, slots := 6, locals := 131 } E [.ref (aD E), .int w, .int w2] x "java/lang/IndexOutOfBoundsException" 1 6 := by
  refine Tr.of (cc := cX5_value) (nL := 4) (ret := (some .int)) (by decide) rfl (Nat.le_of_ble_eq_true rfl) ?_
  intro p e s m args below meth c h hk hx
  refine g_lvs (lv' := [(0, _), (1, _), (2, _)]) rfl ?_
  refine g_aload_n h 0 dX5_value_0 rfl rfl ?_
  refine g_iload_n h 1 dX5_value_1 rfl rfl ?_
  exact g_callVX (As := [.int _]) (C := RX5) h hk hx 1 (t_X5_cacheAt l E x hlt w hb) rfl gX5_value_X5_cacheAt rfl rfl rfl rfl (by decide +kernel) ⟨Nat.le_of_ble_eq_true rfl, Nat.le_of_ble_eq_true rfl⟩ (wat_D E _) rfl rfl dX5_value_2 ⟨by dsimp only; omega, by dsimp only; omega⟩ (Nat.le_of_ble_eq_true rfl) (by omega) (by omega)
set_option maxRecDepth 100000 in
set_option maxHeartbeats 400000 in
theorem t_X5_value_bl (l : Launch) (E : gE) (x : St) (hlt : l.stackTraces = false) (i : Nat) (w : Int32) (hi : i < 4) (hb : badL w) : Tr l yX5_value wsX5_value { frames := 7, cells := 1, slots := 6, locals := 131 } E [.ref (aD E), .int (nI i), .int w] x "java/lang/IndexOutOfBoundsException" 1 6 := by
  refine Tr.of (cc := cX5_value) (nL := 4) (ret := (some .int)) (by decide) rfl (Nat.le_of_ble_eq_true rfl) ?_
  intro p e s m args below meth c h hk hx
  refine g_lvs (lv' := [(0, _), (1, _), (2, _)]) rfl ?_
  refine g_aload_n h 0 dX5_value_0 rfl rfl ?_
  refine g_iload_n h 1 dX5_value_1 rfl rfl ?_
  refine g_callV (As := [.int (nI i)]) (C := RX5) h 1 (c_X5_cacheAt l E _ i (by omega)) rfl gX5_value_X5_cacheAt rfl rfl rfl rfl (by decide +kernel) ⟨Nat.le_of_ble_eq_true rfl, Nat.le_of_ble_eq_true rfl⟩ (wat_D E _) rfl rfl dX5_value_2 ⟨by dsimp only; omega, by dsimp only; omega⟩ (Nat.le_of_ble_eq_true rfl) ?_
  rintro _ _ ⟨rfl, hy⟩
  obtain rfl := hy.symm
  dsimp only [Option.toList, List.cons_append, List.nil_append]
  refine g_astore_n (lv' := [(0, _), (1, _), (2, _), (3, _)]) h [1, 2, 3, 0] dX5_value_5 rfl (by decide) rfl ?_
  refine g_iload_n h 2 dX5_value_6 rfl rfl ?_
  exact g_callSX (As := [.int _]) h hk hx 1 (t_X5_checkLine l E x hlt w hb) rfl gX5_value_X5_checkLine rfl rfl rfl rfl (by decide +kernel) ⟨Nat.le_of_ble_eq_true rfl, Nat.le_of_ble_eq_true rfl⟩ dX5_value_7 ⟨by dsimp only; omega, by dsimp only; omega⟩ (Nat.le_of_ble_eq_true rfl) (by omega) (by omega)
set_option maxRecDepth 100000 in
set_option maxHeartbeats 400000 in
theorem t_X5_victimValue_bc (l : Launch) (E : gE) (x : St) (hlt : l.stackTraces = false) (w : Int32) (w2 : Int32) (hb : badC w) : Tr l yX5_victimValue wsX5_victimValue { frames := 7, cells := 1, slots := 6, locals := 131 } E [.ref (aD E), .int w, .int w2] x "java/lang/IndexOutOfBoundsException" 1 6 := by
  refine Tr.of (cc := cX5_victimValue) (nL := 4) (ret := (some .int)) (by decide) rfl (Nat.le_of_ble_eq_true rfl) ?_
  intro p e s m args below meth c h hk hx
  refine g_lvs (lv' := [(0, _), (1, _), (2, _)]) rfl ?_
  refine g_aload_n h 0 dX5_victimValue_0 rfl rfl ?_
  refine g_iload_n h 1 dX5_victimValue_1 rfl rfl ?_
  exact g_callVX (As := [.int _]) (C := RX5) h hk hx 1 (t_X5_cacheAt l E x hlt w hb) rfl gX5_victimValue_X5_cacheAt rfl rfl rfl rfl (by decide +kernel) ⟨Nat.le_of_ble_eq_true rfl, Nat.le_of_ble_eq_true rfl⟩ (wat_D E _) rfl rfl dX5_victimValue_2 ⟨by dsimp only; omega, by dsimp only; omega⟩ (Nat.le_of_ble_eq_true rfl) (by omega) (by omega)
set_option maxRecDepth 100000 in
set_option maxHeartbeats 400000 in
theorem t_X5_victimValue_bl (l : Launch) (E : gE) (x : St) (hlt : l.stackTraces = false) (i : Nat) (w : Int32) (hi : i < 4) (hb : badL w) : Tr l yX5_victimValue wsX5_victimValue { frames := 7, cells := 1, slots := 6, locals := 131 } E [.ref (aD E), .int (nI i), .int w] x "java/lang/IndexOutOfBoundsException" 1 6 := by
  refine Tr.of (cc := cX5_victimValue) (nL := 4) (ret := (some .int)) (by decide) rfl (Nat.le_of_ble_eq_true rfl) ?_
  intro p e s m args below meth c h hk hx
  refine g_lvs (lv' := [(0, _), (1, _), (2, _)]) rfl ?_
  refine g_aload_n h 0 dX5_victimValue_0 rfl rfl ?_
  refine g_iload_n h 1 dX5_victimValue_1 rfl rfl ?_
  refine g_callV (As := [.int (nI i)]) (C := RX5) h 1 (c_X5_cacheAt l E _ i (by omega)) rfl gX5_victimValue_X5_cacheAt rfl rfl rfl rfl (by decide +kernel) ⟨Nat.le_of_ble_eq_true rfl, Nat.le_of_ble_eq_true rfl⟩ (wat_D E _) rfl rfl dX5_victimValue_2 ⟨by dsimp only; omega, by dsimp only; omega⟩ (Nat.le_of_ble_eq_true rfl) ?_
  rintro _ _ ⟨rfl, hy⟩
  obtain rfl := hy.symm
  dsimp only [Option.toList, List.cons_append, List.nil_append]
  refine g_astore_n (lv' := [(0, _), (1, _), (2, _), (3, _)]) h [1, 2, 3, 0] dX5_victimValue_5 rfl (by decide) rfl ?_
  refine g_iload_n h 2 dX5_victimValue_6 rfl rfl ?_
  exact g_callSX (As := [.int _]) h hk hx 1 (t_X5_checkLine l E x hlt w hb) rfl gX5_victimValue_X5_checkLine rfl rfl rfl rfl (by decide +kernel) ⟨Nat.le_of_ble_eq_true rfl, Nat.le_of_ble_eq_true rfl⟩ dX5_victimValue_7 ⟨by dsimp only; omega, by dsimp only; omega⟩ (Nat.le_of_ble_eq_true rfl) (by omega) (by omega)
set_option maxRecDepth 100000 in
set_option maxHeartbeats 400000 in
theorem t_X5_read_bc (l : Launch) (E : gE) (x : St) (hlt : l.stackTraces = false) (w : Int32) (w2 : Int32) (hb : badC w) : Tr l yX5_read wsX5_read { frames := 7, cells := 1, slots := 6, locals := 131 } E [.ref (aD E), .int w, .int w2] x "java/lang/IndexOutOfBoundsException" 1 6 := by
  refine Tr.of (cc := cX5_read) (nL := 4) (ret := (some .int)) (by decide) rfl (Nat.le_of_ble_eq_true rfl) ?_
  intro p e s m args below meth c h hk hx
  refine g_lvs (lv' := [(0, _), (1, _), (2, _)]) rfl ?_
  refine g_aload_n h 0 dX5_read_0 rfl rfl ?_
  refine g_iload_n h 1 dX5_read_1 rfl rfl ?_
  exact g_callVX (As := [.int _]) (C := RX5) h hk hx 1 (t_X5_cacheAt l E x hlt w hb) rfl gX5_read_X5_cacheAt rfl rfl rfl rfl (by decide +kernel) ⟨Nat.le_of_ble_eq_true rfl, Nat.le_of_ble_eq_true rfl⟩ (wat_D E _) rfl rfl dX5_read_2 ⟨by dsimp only; omega, by dsimp only; omega⟩ (Nat.le_of_ble_eq_true rfl) (by omega) (by omega)
set_option maxRecDepth 100000 in
set_option maxHeartbeats 400000 in
theorem t_X5_read_bl (l : Launch) (E : gE) (x : St) (hlt : l.stackTraces = false) (i : Nat) (w : Int32) (hi : i < 4) (hb : badL w) : Tr l yX5_read wsX5_read { frames := 7, cells := 1, slots := 6, locals := 131 } E [.ref (aD E), .int (nI i), .int w] x "java/lang/IndexOutOfBoundsException" 1 6 := by
  refine Tr.of (cc := cX5_read) (nL := 4) (ret := (some .int)) (by decide) rfl (Nat.le_of_ble_eq_true rfl) ?_
  intro p e s m args below meth c h hk hx
  refine g_lvs (lv' := [(0, _), (1, _), (2, _)]) rfl ?_
  refine g_aload_n h 0 dX5_read_0 rfl rfl ?_
  refine g_iload_n h 1 dX5_read_1 rfl rfl ?_
  refine g_callV (As := [.int (nI i)]) (C := RX5) h 1 (c_X5_cacheAt l E _ i (by omega)) rfl gX5_read_X5_cacheAt rfl rfl rfl rfl (by decide +kernel) ⟨Nat.le_of_ble_eq_true rfl, Nat.le_of_ble_eq_true rfl⟩ (wat_D E _) rfl rfl dX5_read_2 ⟨by dsimp only; omega, by dsimp only; omega⟩ (Nat.le_of_ble_eq_true rfl) ?_
  rintro _ _ ⟨rfl, hy⟩
  obtain rfl := hy.symm
  dsimp only [Option.toList, List.cons_append, List.nil_append]
  refine g_astore_n (lv' := [(0, _), (1, _), (2, _), (3, _)]) h [1, 2, 3, 0] dX5_read_5 rfl (by decide) rfl ?_
  refine g_iload_n h 2 dX5_read_6 rfl rfl ?_
  exact g_callSX (As := [.int _]) h hk hx 1 (t_X5_checkLine l E x hlt w hb) rfl gX5_read_X5_checkLine rfl rfl rfl rfl (by decide +kernel) ⟨Nat.le_of_ble_eq_true rfl, Nat.le_of_ble_eq_true rfl⟩ dX5_read_7 ⟨by dsimp only; omega, by dsimp only; omega⟩ (Nat.le_of_ble_eq_true rfl) (by omega) (by omega)
set_option maxRecDepth 100000 in
set_option maxHeartbeats 400000 in
theorem t_X5_evict_bc (l : Launch) (E : gE) (x : St) (hlt : l.stackTraces = false) (w : Int32) (w2 : Int32) (hb : badC w) : Tr l yX5_evict wsX5_evict { frames := 7, cells := 1, slots := 6, locals := 131 } E [.ref (aD E), .int w, .int w2] x "java/lang/IndexOutOfBoundsException" 1 6 := by
  refine Tr.of (cc := cX5_evict) (nL := 5) (ret := (some .int)) (by decide) rfl (Nat.le_of_ble_eq_true rfl) ?_
  intro p e s m args below meth c h hk hx
  refine g_lvs (lv' := [(0, _), (1, _), (2, _)]) rfl ?_
  refine g_aload_n h 0 dX5_evict_0 rfl rfl ?_
  refine g_iload_n h 1 dX5_evict_1 rfl rfl ?_
  exact g_callVX (As := [.int _]) (C := RX5) h hk hx 1 (t_X5_cacheAt l E x hlt w hb) rfl gX5_evict_X5_cacheAt rfl rfl rfl rfl (by decide +kernel) ⟨Nat.le_of_ble_eq_true rfl, Nat.le_of_ble_eq_true rfl⟩ (wat_D E _) rfl rfl dX5_evict_2 ⟨by dsimp only; omega, by dsimp only; omega⟩ (Nat.le_of_ble_eq_true rfl) (by omega) (by omega)
set_option maxRecDepth 100000 in
set_option maxHeartbeats 400000 in
theorem t_X5_evict_bl (l : Launch) (E : gE) (x : St) (hlt : l.stackTraces = false) (i : Nat) (w : Int32) (hi : i < 4) (hb : badL w) : Tr l yX5_evict wsX5_evict { frames := 7, cells := 1, slots := 6, locals := 131 } E [.ref (aD E), .int (nI i), .int w] x "java/lang/IndexOutOfBoundsException" 1 6 := by
  refine Tr.of (cc := cX5_evict) (nL := 5) (ret := (some .int)) (by decide) rfl (Nat.le_of_ble_eq_true rfl) ?_
  intro p e s m args below meth c h hk hx
  refine g_lvs (lv' := [(0, _), (1, _), (2, _)]) rfl ?_
  refine g_aload_n h 0 dX5_evict_0 rfl rfl ?_
  refine g_iload_n h 1 dX5_evict_1 rfl rfl ?_
  refine g_callV (As := [.int (nI i)]) (C := RX5) h 1 (c_X5_cacheAt l E _ i (by omega)) rfl gX5_evict_X5_cacheAt rfl rfl rfl rfl (by decide +kernel) ⟨Nat.le_of_ble_eq_true rfl, Nat.le_of_ble_eq_true rfl⟩ (wat_D E _) rfl rfl dX5_evict_2 ⟨by dsimp only; omega, by dsimp only; omega⟩ (Nat.le_of_ble_eq_true rfl) ?_
  rintro _ _ ⟨rfl, hy⟩
  obtain rfl := hy.symm
  dsimp only [Option.toList, List.cons_append, List.nil_append]
  refine g_astore_n (lv' := [(0, _), (1, _), (2, _), (3, _)]) h [1, 2, 3, 0] dX5_evict_5 rfl (by decide) rfl ?_
  refine g_iload_n h 2 dX5_evict_6 rfl rfl ?_
  exact g_callSX (As := [.int _]) h hk hx 1 (t_X5_checkLine l E x hlt w hb) rfl gX5_evict_X5_checkLine rfl rfl rfl rfl (by decide +kernel) ⟨Nat.le_of_ble_eq_true rfl, Nat.le_of_ble_eq_true rfl⟩ dX5_evict_7 ⟨by dsimp only; omega, by dsimp only; omega⟩ (Nat.le_of_ble_eq_true rfl) (by omega) (by omega)
set_option maxRecDepth 100000 in
set_option maxHeartbeats 400000 in
theorem t_X5_lineAt_bc (l : Launch) (E : gE) (x : St) (hlt : l.stackTraces = false) (w : Int32) (w2 : Int32) (hb : badC w) : Tr l yX5_lineAt wsX5_lineAt { frames := 7, cells := 1, slots := 6, locals := 131 } E [.ref (aD E), .int w, .int w2] x "java/lang/IndexOutOfBoundsException" 1 6 := by
  refine Tr.of (cc := cX5_lineAt) (nL := 4) (ret := (some .int)) (by decide) rfl (Nat.le_of_ble_eq_true rfl) ?_
  intro p e s m args below meth c h hk hx
  refine g_lvs (lv' := [(0, _), (1, _), (2, _)]) rfl ?_
  refine g_aload_n h 0 dX5_lineAt_0 rfl rfl ?_
  refine g_iload_n h 1 dX5_lineAt_1 rfl rfl ?_
  exact g_callVX (As := [.int _]) (C := RX5) h hk hx 1 (t_X5_cacheAt l E x hlt w hb) rfl gX5_lineAt_X5_cacheAt rfl rfl rfl rfl (by decide +kernel) ⟨Nat.le_of_ble_eq_true rfl, Nat.le_of_ble_eq_true rfl⟩ (wat_D E _) rfl rfl dX5_lineAt_2 ⟨by dsimp only; omega, by dsimp only; omega⟩ (Nat.le_of_ble_eq_true rfl) (by omega) (by omega)
set_option maxRecDepth 100000 in
set_option maxHeartbeats 400000 in
theorem t_X5_write_bc (l : Launch) (E : gE) (x : St) (hlt : l.stackTraces = false) (w : Int32) (w2 : Int32) (w3 : Int32) (hb : badC w) : Tr l yX5_write wsX5_write { frames := 7, cells := 1, slots := 6, locals := 131 } E [.ref (aD E), .int w, .int w2, .int w3] x "java/lang/IndexOutOfBoundsException" 1 6 := by
  refine Tr.of (cc := cX5_write) (nL := 5) (ret := (some .boolean)) (by decide) rfl (Nat.le_of_ble_eq_true rfl) ?_
  intro p e s m args below meth c h hk hx
  refine g_lvs (lv' := [(0, _), (1, _), (2, _), (3, _)]) rfl ?_
  refine g_aload_n h 0 dX5_write_0 rfl rfl ?_
  refine g_iload_n h 1 dX5_write_1 rfl rfl ?_
  exact g_callVX (As := [.int _]) (C := RX5) h hk hx 1 (t_X5_cacheAt l E x hlt w hb) rfl gX5_write_X5_cacheAt rfl rfl rfl rfl (by decide +kernel) ⟨Nat.le_of_ble_eq_true rfl, Nat.le_of_ble_eq_true rfl⟩ (wat_D E _) rfl rfl dX5_write_2 ⟨by dsimp only; omega, by dsimp only; omega⟩ (Nat.le_of_ble_eq_true rfl) (by omega) (by omega)
set_option maxRecDepth 100000 in
set_option maxHeartbeats 400000 in
theorem t_X5_setRoom_bc (l : Launch) (E : gE) (x : St) (hlt : l.stackTraces = false) (w : Int32) (w2 : Int32) (w3 : Int32) (hb : badC w) : Tr l yX5_setRoom wsX5_setRoom { frames := 7, cells := 1, slots := 6, locals := 131 } E [.ref (aD E), .int w, .int w2, .int w3] x "java/lang/IndexOutOfBoundsException" 1 6 := by
  refine Tr.of (cc := cX5_setRoom) (nL := 6) (ret := (some .boolean)) (by decide) rfl (Nat.le_of_ble_eq_true rfl) ?_
  intro p e s m args below meth c h hk hx
  refine g_lvs (lv' := [(0, _), (1, _), (2, _), (3, _)]) rfl ?_
  refine g_aload_n h 0 dX5_setRoom_0 rfl rfl ?_
  refine g_iload_n h 1 dX5_setRoom_1 rfl rfl ?_
  exact g_callVX (As := [.int _]) (C := RX5) h hk hx 1 (t_X5_cacheAt l E x hlt w hb) rfl gX5_setRoom_X5_cacheAt rfl rfl rfl rfl (by decide +kernel) ⟨Nat.le_of_ble_eq_true rfl, Nat.le_of_ble_eq_true rfl⟩ (wat_D E _) rfl rfl dX5_setRoom_2 ⟨by dsimp only; omega, by dsimp only; omega⟩ (Nat.le_of_ble_eq_true rfl) (by omega) (by omega)
set_option maxRecDepth 100000 in
set_option maxHeartbeats 400000 in
theorem t_X5_write_bl (l : Launch) (E : gE) (x : St) (hlt : l.stackTraces = false) (i : Nat) (w : Int32) (w3 : Int32) (hi : i < 4) (hb : badL w) : Tr l yX5_write wsX5_write { frames := 7, cells := 1, slots := 6, locals := 131 } E [.ref (aD E), .int (nI i), .int w, .int w3] x "java/lang/IndexOutOfBoundsException" 1 6 := by
  refine Tr.of (cc := cX5_write) (nL := 5) (ret := (some .boolean)) (by decide) rfl (Nat.le_of_ble_eq_true rfl) ?_
  intro p e s m args below meth c h hk hx
  refine g_lvs (lv' := [(0, _), (1, _), (2, _), (3, _)]) rfl ?_
  refine g_aload_n h 0 dX5_write_0 rfl rfl ?_
  refine g_iload_n h 1 dX5_write_1 rfl rfl ?_
  refine g_callV (As := [.int (nI i)]) (C := RX5) h 1 (c_X5_cacheAt l E _ i (by omega)) rfl gX5_write_X5_cacheAt rfl rfl rfl rfl (by decide +kernel) ⟨Nat.le_of_ble_eq_true rfl, Nat.le_of_ble_eq_true rfl⟩ (wat_D E _) rfl rfl dX5_write_2 ⟨by dsimp only; omega, by dsimp only; omega⟩ (Nat.le_of_ble_eq_true rfl) ?_
  rintro _ _ ⟨rfl, hy⟩
  obtain rfl := hy.symm
  dsimp only [Option.toList, List.cons_append, List.nil_append]
  refine g_astore (lv' := [(0, _), (1, _), (2, _), (3, _), (4, _)]) h [1, 2, 3, 4, 0] dX5_write_5 (by decide) rfl ?_
  refine g_iload_n h 2 dX5_write_7 rfl rfl ?_
  exact g_callSX (As := [.int _]) h hk hx 1 (t_X5_checkLine l E x hlt w hb) rfl gX5_write_X5_checkLine rfl rfl rfl rfl (by decide +kernel) ⟨Nat.le_of_ble_eq_true rfl, Nat.le_of_ble_eq_true rfl⟩ dX5_write_8 ⟨by dsimp only; omega, by dsimp only; omega⟩ (Nat.le_of_ble_eq_true rfl) (by omega) (by omega)
set_option maxRecDepth 100000 in
set_option maxHeartbeats 400000 in
theorem t_X5_write_bv (l : Launch) (E : gE) (x : St) (hlt : l.stackTraces = false) (i : Nat) (j : Nat) (w : Int32) (hi : i < 4) (hj : j < 16) (hb : w < 0 ∨ nI 9999 < w) : Tr l yX5_write wsX5_write { frames := 7, cells := 1, slots := 6, locals := 131 } E [.ref (aD E), .int (nI i), .int (nI j), .int w] x "java/lang/IllegalArgumentException" 1 6 := by
  refine Tr.of (cc := cX5_write) (nL := 5) (ret := (some .boolean)) (by decide) rfl (Nat.le_of_ble_eq_true rfl) ?_
  intro p e s m args below meth c h hk hx
  refine g_lvs (lv' := [(0, _), (1, _), (2, _), (3, _)]) rfl ?_
  refine g_aload_n h 0 dX5_write_0 rfl rfl ?_
  refine g_iload_n h 1 dX5_write_1 rfl rfl ?_
  refine g_callV (As := [.int (nI i)]) (C := RX5) h 1 (c_X5_cacheAt l E _ i (by omega)) rfl gX5_write_X5_cacheAt rfl rfl rfl rfl (by decide +kernel) ⟨Nat.le_of_ble_eq_true rfl, Nat.le_of_ble_eq_true rfl⟩ (wat_D E _) rfl rfl dX5_write_2 ⟨by dsimp only; omega, by dsimp only; omega⟩ (Nat.le_of_ble_eq_true rfl) ?_
  rintro _ _ ⟨rfl, hy⟩
  obtain rfl := hy.symm
  dsimp only [Option.toList, List.cons_append, List.nil_append]
  refine g_astore (lv' := [(0, _), (1, _), (2, _), (3, _), (4, _)]) h [1, 2, 3, 4, 0] dX5_write_5 (by decide) rfl ?_
  refine g_iload_n h 2 dX5_write_7 rfl rfl ?_
  refine g_callS (As := [.int (nI j)]) h 1 (c_X5_checkLine l E _ j (by omega)) rfl gX5_write_X5_checkLine rfl rfl rfl rfl (by decide +kernel) ⟨Nat.le_of_ble_eq_true rfl, Nat.le_of_ble_eq_true rfl⟩ dX5_write_8 ⟨by dsimp only; omega, by dsimp only; omega⟩ (Nat.le_of_ble_eq_true rfl) ?_
  rintro _ _ ⟨rfl, hy⟩
  obtain rfl := hy.symm
  dsimp only [Option.toList, List.cons_append, List.nil_append]
  refine g_iload_n h 3 dX5_write_11 rfl rfl ?_
  refine g_if_lt h 22 dX5_write_12 (by decide) (fun c_12 => ?_) (fun c_12 => ?_)
  · skip
    exact g_throwS (EX := "java/lang/IllegalArgumentException") (text := "value is not 0 to 9999") (names := ["java/lang/RuntimeException", "java/lang/Exception"]) (ik := 36) (is := 87) (ic := 40) h hlt hk hx 3 rfl (by decide +kernel) (by decide +kernel) (by decide +kernel) (by decide +kernel) (by decide +kernel) (by decide +kernel) (by decide +kernel) (by decide +kernel) dX5_write_22 dX5_write_25 dX5_write_26 dX5_write_28 dX5_write_31 (Nat.le_of_ble_eq_true rfl) (Nat.le_of_ble_eq_true rfl) (by dsimp only; omega) (by dsimp only; omega) (by omega) (by omega)
  · skip
    refine g_iload_n h 3 dX5_write_15 rfl rfl ?_
    refine g_sipush (v := nI 9999) h dX5_write_16 (by decide) ?_
    refine g_icmp_le h 32 dX5_write_19 (by decide) (fun c_19 => ?_) (fun c_19 => ?_)
    · skip
      exact (hb.elim c_12 (fun z => absurd z (Int32.not_lt.mpr c_19))).elim
    · skip
      exact g_throwS (EX := "java/lang/IllegalArgumentException") (text := "value is not 0 to 9999") (names := ["java/lang/RuntimeException", "java/lang/Exception"]) (ik := 36) (is := 87) (ic := 40) h hlt hk hx 3 rfl (by decide +kernel) (by decide +kernel) (by decide +kernel) (by decide +kernel) (by decide +kernel) (by decide +kernel) (by decide +kernel) (by decide +kernel) dX5_write_22 dX5_write_25 dX5_write_26 dX5_write_28 dX5_write_31 (Nat.le_of_ble_eq_true rfl) (Nat.le_of_ble_eq_true rfl) (by dsimp only; omega) (by dsimp only; omega) (by omega) (by omega)
set_option maxRecDepth 100000 in
set_option maxHeartbeats 400000 in
theorem t_X5_lineAt_t (l : Launch) (E : gE) (x : St) (hlt : l.stackTraces = false) (v : Vw) (hs : List (Nat × M7)) (hV : VW x v [] hs) (i : Nat) (w : Int32) (hi : i < 4) (hb : w < 0 ∨ v.x.FC i 7 ≤ w) : Tr l yX5_lineAt wsX5_lineAt { frames := 7, cells := 1, slots := 6, locals := 131 } E [.ref (aD E), .int (nI i), .int w] x "java/util/NoSuchElementException" 1 6 := by
  refine Tr.of (cc := cX5_lineAt) (nL := 4) (ret := (some .int)) (by decide) rfl (Nat.le_of_ble_eq_true rfl) ?_
  intro p e s m args below meth c h hk hx
  refine g_lvs (lv' := [(0, _), (1, _), (2, _)]) rfl ?_
  refine g_aload_n h 0 dX5_lineAt_0 rfl rfl ?_
  refine g_iload_n h 1 dX5_lineAt_1 rfl rfl ?_
  refine g_callV (As := [.int (nI i)]) (C := RX5) h 1 (c_X5_cacheAt l E _ i (by omega)) rfl gX5_lineAt_X5_cacheAt rfl rfl rfl rfl (by decide +kernel) ⟨Nat.le_of_ble_eq_true rfl, Nat.le_of_ble_eq_true rfl⟩ (wat_D E _) rfl rfl dX5_lineAt_2 ⟨by dsimp only; omega, by dsimp only; omega⟩ (Nat.le_of_ble_eq_true rfl) ?_
  rintro _ _ ⟨rfl, hy⟩
  obtain rfl := hy.symm
  dsimp only [Option.toList, List.cons_append, List.nil_append]
  refine g_astore_n (lv' := [(0, _), (1, _), (2, _), (3, _)]) h [1, 2, 3, 0] dX5_lineAt_5 rfl (by decide) rfl ?_
  refine g_iload_n h 2 dX5_lineAt_6 rfl rfl ?_
  refine g_if_lt h 18 dX5_lineAt_7 (by decide) (fun c_7 => ?_) (fun c_7 => ?_)
  · skip
    exact g_throwN (EX := "java/util/NoSuchElementException") (text := "there is no such index") (Y9 := "java/lang/RuntimeException") (r9 := ["java/lang/Exception"]) (ik := 127) (is := 129) (ic := 131) h hlt hk hx 6 rfl (by decide +kernel) (by decide +kernel) (by decide +kernel) (by decide +kernel) (by decide +kernel) (by decide +kernel) (by decide +kernel) (by decide +kernel) dX5_lineAt_18 dX5_lineAt_21 dX5_lineAt_22 dX5_lineAt_24 dX5_lineAt_27 (Nat.le_of_ble_eq_true rfl) (Nat.le_of_ble_eq_true rfl) (by dsimp only; omega) (by dsimp only; omega) (by omega) (by omega)
  · skip
    refine g_iload_n h 2 dX5_lineAt_10 rfl rfl ?_
    refine g_aload_n h 3 dX5_lineAt_11 rfl rfl ?_
    refine g_get (C := RX0) (T := TX0) (N := 14) h 7 (wat_C E _ (by omega)) rfl in_X5_lineAt_X0 (by decide) lk_X5_lineAt_124 rfl rfl dX5_lineAt_12 ?_
    refine g_eqi (hV.FC _ _) ?_
    refine g_icmp_lt h 28 dX5_lineAt_15 (by decide) (fun c_15 => ?_) (fun c_15 => ?_)
    · skip
      exact (hb.elim c_7 (fun z => absurd c_15 (Int32.not_lt.mpr z))).elim
    · skip
      exact g_throwN (EX := "java/util/NoSuchElementException") (text := "there is no such index") (Y9 := "java/lang/RuntimeException") (r9 := ["java/lang/Exception"]) (ik := 127) (is := 129) (ic := 131) h hlt hk hx 6 rfl (by decide +kernel) (by decide +kernel) (by decide +kernel) (by decide +kernel) (by decide +kernel) (by decide +kernel) (by decide +kernel) (by decide +kernel) dX5_lineAt_18 dX5_lineAt_21 dX5_lineAt_22 dX5_lineAt_24 dX5_lineAt_27 (Nat.le_of_ble_eq_true rfl) (Nat.le_of_ble_eq_true rfl) (by dsimp only; omega) (by dsimp only; omega) (by omega) (by omega)
set_option maxRecDepth 100000 in
set_option maxHeartbeats 400000 in
theorem t_X5_value_t (l : Launch) (E : gE) (x : St) (hlt : l.stackTraces = false) (v : Vw) (hs : List (Nat × M7)) (hV : VW x v [] hs) (i : Nat) (j : Nat) (hi : i < 4) (hj : j < 16) (hh : nI (r_X0_holds v i j) = 0) : Tr l yX5_value wsX5_value { frames := 7, cells := 1, slots := 6, locals := 131 } E [.ref (aD E), .int (nI i), .int (nI j)] x "java/util/NoSuchElementException" 1 6 := by
  refine Tr.of (cc := cX5_value) (nL := 4) (ret := (some .int)) (by decide) rfl (Nat.le_of_ble_eq_true rfl) ?_
  intro p e s m args below meth c h hk hx
  refine g_lvs (lv' := [(0, _), (1, _), (2, _)]) rfl ?_
  refine g_aload_n h 0 dX5_value_0 rfl rfl ?_
  refine g_iload_n h 1 dX5_value_1 rfl rfl ?_
  refine g_callV (As := [.int (nI i)]) (C := RX5) h 1 (c_X5_cacheAt l E _ i (by omega)) rfl gX5_value_X5_cacheAt rfl rfl rfl rfl (by decide +kernel) ⟨Nat.le_of_ble_eq_true rfl, Nat.le_of_ble_eq_true rfl⟩ (wat_D E _) rfl rfl dX5_value_2 ⟨by dsimp only; omega, by dsimp only; omega⟩ (Nat.le_of_ble_eq_true rfl) ?_
  rintro _ _ ⟨rfl, hy⟩
  obtain rfl := hy.symm
  dsimp only [Option.toList, List.cons_append, List.nil_append]
  refine g_astore_n (lv' := [(0, _), (1, _), (2, _), (3, _)]) h [1, 2, 3, 0] dX5_value_5 rfl (by decide) rfl ?_
  refine g_iload_n h 2 dX5_value_6 rfl rfl ?_
  refine g_callS (As := [.int (nI j)]) h 1 (c_X5_checkLine l E _ j (by omega)) rfl gX5_value_X5_checkLine rfl rfl rfl rfl (by decide +kernel) ⟨Nat.le_of_ble_eq_true rfl, Nat.le_of_ble_eq_true rfl⟩ dX5_value_7 ⟨by dsimp only; omega, by dsimp only; omega⟩ (Nat.le_of_ble_eq_true rfl) ?_
  rintro _ _ ⟨rfl, hy⟩
  obtain rfl := hy.symm
  dsimp only [Option.toList, List.cons_append, List.nil_append]
  refine g_aload_n h 3 dX5_value_10 rfl rfl ?_
  refine g_iload_n h 2 dX5_value_11 rfl rfl ?_
  exact g_callSX (As := [.ref (aC E i), .int (nI j)]) h hk hx 2 (t_X5_checkHeld l E x hlt v hs hV i j hi hj hh) rfl gX5_value_X5_checkHeld rfl rfl rfl rfl (by decide +kernel) ⟨Nat.le_of_ble_eq_true rfl, Nat.le_of_ble_eq_true rfl⟩ dX5_value_12 ⟨by dsimp only; omega, by dsimp only; omega⟩ (Nat.le_of_ble_eq_true rfl) (by omega) (by omega)
set_option maxRecDepth 100000 in
set_option maxHeartbeats 400000 in
theorem t_X5_evict_t (l : Launch) (E : gE) (x : St) (hlt : l.stackTraces = false) (v : Vw) (hs : List (Nat × M7)) (hV : VW x v [] hs) (i : Nat) (j : Nat) (hi : i < 4) (hj : j < 16) (hh : nI (r_X0_holds v i j) = 0) : Tr l yX5_evict wsX5_evict { frames := 7, cells := 1, slots := 6, locals := 131 } E [.ref (aD E), .int (nI i), .int (nI j)] x "java/util/NoSuchElementException" 1 6 := by
  refine Tr.of (cc := cX5_evict) (nL := 5) (ret := (some .int)) (by decide) rfl (Nat.le_of_ble_eq_true rfl) ?_
  intro p e s m args below meth c h hk hx
  refine g_lvs (lv' := [(0, _), (1, _), (2, _)]) rfl ?_
  refine g_aload_n h 0 dX5_evict_0 rfl rfl ?_
  refine g_iload_n h 1 dX5_evict_1 rfl rfl ?_
  refine g_callV (As := [.int (nI i)]) (C := RX5) h 1 (c_X5_cacheAt l E _ i (by omega)) rfl gX5_evict_X5_cacheAt rfl rfl rfl rfl (by decide +kernel) ⟨Nat.le_of_ble_eq_true rfl, Nat.le_of_ble_eq_true rfl⟩ (wat_D E _) rfl rfl dX5_evict_2 ⟨by dsimp only; omega, by dsimp only; omega⟩ (Nat.le_of_ble_eq_true rfl) ?_
  rintro _ _ ⟨rfl, hy⟩
  obtain rfl := hy.symm
  dsimp only [Option.toList, List.cons_append, List.nil_append]
  refine g_astore_n (lv' := [(0, _), (1, _), (2, _), (3, _)]) h [1, 2, 3, 0] dX5_evict_5 rfl (by decide) rfl ?_
  refine g_iload_n h 2 dX5_evict_6 rfl rfl ?_
  refine g_callS (As := [.int (nI j)]) h 1 (c_X5_checkLine l E _ j (by omega)) rfl gX5_evict_X5_checkLine rfl rfl rfl rfl (by decide +kernel) ⟨Nat.le_of_ble_eq_true rfl, Nat.le_of_ble_eq_true rfl⟩ dX5_evict_7 ⟨by dsimp only; omega, by dsimp only; omega⟩ (Nat.le_of_ble_eq_true rfl) ?_
  rintro _ _ ⟨rfl, hy⟩
  obtain rfl := hy.symm
  dsimp only [Option.toList, List.cons_append, List.nil_append]
  refine g_aload_n h 3 dX5_evict_10 rfl rfl ?_
  refine g_iload_n h 2 dX5_evict_11 rfl rfl ?_
  exact g_callSX (As := [.ref (aC E i), .int (nI j)]) h hk hx 2 (t_X5_checkHeld l E x hlt v hs hV i j hi hj hh) rfl gX5_evict_X5_checkHeld rfl rfl rfl rfl (by decide +kernel) ⟨Nat.le_of_ble_eq_true rfl, Nat.le_of_ble_eq_true rfl⟩ dX5_evict_12 ⟨by dsimp only; omega, by dsimp only; omega⟩ (Nat.le_of_ble_eq_true rfl) (by omega) (by omega)
set_option maxRecDepth 100000 in
set_option maxHeartbeats 400000 in
theorem t_X5_evict_s (l : Launch) (E : gE) (x : St) (hlt : l.stackTraces = false) (v : Vw) (hs : List (Nat × M7)) (hV : VW x v [] hs) (i : Nat) (j : Nat) (hi : i < 4) (hj : j < 16) (hh : ¬ nI (r_X0_holds v i j) = 0) (he : ¬ (¬ v.x.FR i 0 = nI j ∧ nI (r_X0_lacksVictimRoomFor v i j) = 0)) : Tr l yX5_evict wsX5_evict { frames := 7, cells := 1, slots := 6, locals := 131 } E [.ref (aD E), .int (nI i), .int (nI j)] x "java/lang/IllegalStateException" 1 6 := by
  refine Tr.of (cc := cX5_evict) (nL := 5) (ret := (some .int)) (by decide) rfl (Nat.le_of_ble_eq_true rfl) ?_
  intro p e s m args below meth c h hk hx
  refine g_lvs (lv' := [(0, _), (1, _), (2, _)]) rfl ?_
  refine g_aload_n h 0 dX5_evict_0 rfl rfl ?_
  refine g_iload_n h 1 dX5_evict_1 rfl rfl ?_
  refine g_callV (As := [.int (nI i)]) (C := RX5) h 1 (c_X5_cacheAt l E _ i (by omega)) rfl gX5_evict_X5_cacheAt rfl rfl rfl rfl (by decide +kernel) ⟨Nat.le_of_ble_eq_true rfl, Nat.le_of_ble_eq_true rfl⟩ (wat_D E _) rfl rfl dX5_evict_2 ⟨by dsimp only; omega, by dsimp only; omega⟩ (Nat.le_of_ble_eq_true rfl) ?_
  rintro _ _ ⟨rfl, hy⟩
  obtain rfl := hy.symm
  dsimp only [Option.toList, List.cons_append, List.nil_append]
  refine g_astore_n (lv' := [(0, _), (1, _), (2, _), (3, _)]) h [1, 2, 3, 0] dX5_evict_5 rfl (by decide) rfl ?_
  refine g_iload_n h 2 dX5_evict_6 rfl rfl ?_
  refine g_callS (As := [.int (nI j)]) h 1 (c_X5_checkLine l E _ j (by omega)) rfl gX5_evict_X5_checkLine rfl rfl rfl rfl (by decide +kernel) ⟨Nat.le_of_ble_eq_true rfl, Nat.le_of_ble_eq_true rfl⟩ dX5_evict_7 ⟨by dsimp only; omega, by dsimp only; omega⟩ (Nat.le_of_ble_eq_true rfl) ?_
  rintro _ _ ⟨rfl, hy⟩
  obtain rfl := hy.symm
  dsimp only [Option.toList, List.cons_append, List.nil_append]
  refine g_aload_n h 3 dX5_evict_10 rfl rfl ?_
  refine g_iload_n h 2 dX5_evict_11 rfl rfl ?_
  refine g_callS (As := [.ref (aC E i), .int (nI j)]) h 2 (c_X5_checkHeld l E _ _ _ hV i j hi hj hh) rfl gX5_evict_X5_checkHeld rfl rfl rfl rfl (by decide +kernel) ⟨Nat.le_of_ble_eq_true rfl, Nat.le_of_ble_eq_true rfl⟩ dX5_evict_12 ⟨by dsimp only; omega, by dsimp only; omega⟩ (Nat.le_of_ble_eq_true rfl) ?_
  rintro _ _ ⟨rfl, hy⟩
  obtain rfl := hy.symm
  dsimp only [Option.toList, List.cons_append, List.nil_append]
  refine g_aload_n h 3 dX5_evict_15 rfl rfl ?_
  refine g_get (C := RX0) (T := TX0) (N := 14) h 2 (wat_C E _ (by omega)) rfl in_X5_evict_X0 (by decide) lk_X5_evict_99 rfl rfl dX5_evict_16 ?_
  refine g_get (C := RX4) (T := TX4) (N := 7) h 0 (wat_R E _ (by omega)) rfl in_X5_evict_X4 (by decide) lk_X5_evict_103 rfl rfl dX5_evict_19 ?_
  refine g_eqi (hV.FR _ _) ?_
  refine g_iload_n h 2 dX5_evict_22 rfl rfl ?_
  refine g_icmp_ne h 36 dX5_evict_23 (by decide) (fun c_23 => ?_) (fun c_23 => ?_)
  · skip
    refine g_aload_n h 3 dX5_evict_36 rfl rfl ?_
    refine g_iload_n h 2 dX5_evict_37 rfl rfl ?_
    refine g_callV (As := [.int (nI j)]) (C := RX0) h 1 (c_X0_lacksVictimRoomFor l E _ _ _ _ hV i j (by omega) (by omega)) rfl gX5_evict_X0_lacksVictimRoomFor rfl rfl rfl rfl (by decide +kernel) ⟨Nat.le_of_ble_eq_true rfl, Nat.le_of_ble_eq_true rfl⟩ (wat_C E _ (by omega)) rfl rfl dX5_evict_38 ⟨by dsimp only; omega, by dsimp only; omega⟩ (Nat.le_of_ble_eq_true rfl) ?_
    rintro _ _ ⟨rfl, hy⟩
    obtain rfl := hy.symm
    dsimp only [Option.toList, List.cons_append, List.nil_append]
    refine g_if_eq h 54 dX5_evict_41 (by decide) (fun c_41 => ?_) (fun c_41 => ?_)
    · skip
      exact (he ⟨c_23, c_41⟩).elim
    · skip
      exact g_throwS (EX := "java/lang/IllegalStateException") (text := "the victim buffer has no room") (names := ["java/lang/RuntimeException", "java/lang/Exception"]) (ik := 49) (is := 113) (ic := 53) h hlt hk hx 5 rfl (by decide +kernel) (by decide +kernel) (by decide +kernel) (by decide +kernel) (by decide +kernel) (by decide +kernel) (by decide +kernel) (by decide +kernel) dX5_evict_44 dX5_evict_47 dX5_evict_48 dX5_evict_50 dX5_evict_53 (Nat.le_of_ble_eq_true rfl) (Nat.le_of_ble_eq_true rfl) (by dsimp only; omega) (by dsimp only; omega) (by omega) (by omega)
  · skip
    exact g_throwS (EX := "java/lang/IllegalStateException") (text := "a request for this line is open") (names := ["java/lang/RuntimeException", "java/lang/Exception"]) (ik := 49) (is := 108) (ic := 53) h hlt hk hx 4 rfl (by decide +kernel) (by decide +kernel) (by decide +kernel) (by decide +kernel) (by decide +kernel) (by decide +kernel) (by decide +kernel) (by decide +kernel) dX5_evict_26 dX5_evict_29 dX5_evict_30 dX5_evict_32 dX5_evict_35 (Nat.le_of_ble_eq_true rfl) (Nat.le_of_ble_eq_true rfl) (by dsimp only; omega) (by dsimp only; omega) (by omega) (by omega)
set_option maxRecDepth 100000 in
set_option maxHeartbeats 400000 in
theorem t_X5_read_s (l : Launch) (E : gE) (x : St) (hlt : l.stackTraces = false) (v : Vw) (hs : List (Nat × M7)) (hV : VW x v [] hs) (i : Nat) (j : Nat) (hi : i < 4) (hj : j < 16) (hu : v.x.AC i 3 0 = nI (nat (v.x.AC i 3 0)) ∧ nat (v.x.AC i 3 0) < 16) (hac : ¬ (v.x.FR i 0 = -1 ∧ v.x.AC i 2 j = -1 ∧ (nI (r_X0_needsWayFor v i j) = 0 ∨ nI (r_X0_lacksVictimRoomFor v i (nat (v.x.AC i 3 0))) = 0))) : Tr l yX5_read wsX5_read { frames := 7, cells := 1, slots := 6, locals := 131 } E [.ref (aD E), .int (nI i), .int (nI j)] x "java/lang/IllegalStateException" 1 6 := by
  refine Tr.of (cc := cX5_read) (nL := 4) (ret := (some .int)) (by decide) rfl (Nat.le_of_ble_eq_true rfl) ?_
  intro p e s m args below meth c h hk hx
  refine g_lvs (lv' := [(0, _), (1, _), (2, _)]) rfl ?_
  refine g_aload_n h 0 dX5_read_0 rfl rfl ?_
  refine g_iload_n h 1 dX5_read_1 rfl rfl ?_
  refine g_callV (As := [.int (nI i)]) (C := RX5) h 1 (c_X5_cacheAt l E _ i (by omega)) rfl gX5_read_X5_cacheAt rfl rfl rfl rfl (by decide +kernel) ⟨Nat.le_of_ble_eq_true rfl, Nat.le_of_ble_eq_true rfl⟩ (wat_D E _) rfl rfl dX5_read_2 ⟨by dsimp only; omega, by dsimp only; omega⟩ (Nat.le_of_ble_eq_true rfl) ?_
  rintro _ _ ⟨rfl, hy⟩
  obtain rfl := hy.symm
  dsimp only [Option.toList, List.cons_append, List.nil_append]
  refine g_astore_n (lv' := [(0, _), (1, _), (2, _), (3, _)]) h [1, 2, 3, 0] dX5_read_5 rfl (by decide) rfl ?_
  refine g_iload_n h 2 dX5_read_6 rfl rfl ?_
  refine g_callS (As := [.int (nI j)]) h 1 (c_X5_checkLine l E _ j (by omega)) rfl gX5_read_X5_checkLine rfl rfl rfl rfl (by decide +kernel) ⟨Nat.le_of_ble_eq_true rfl, Nat.le_of_ble_eq_true rfl⟩ dX5_read_7 ⟨by dsimp only; omega, by dsimp only; omega⟩ (Nat.le_of_ble_eq_true rfl) ?_
  rintro _ _ ⟨rfl, hy⟩
  obtain rfl := hy.symm
  dsimp only [Option.toList, List.cons_append, List.nil_append]
  refine g_aload_n h 3 dX5_read_10 rfl rfl ?_
  refine g_iload_n h 2 dX5_read_11 rfl rfl ?_
  exact g_callSX (As := [.ref (aC E i), .int (nI j)]) h hk hx 2 (t_X5_checkAccess l E x hlt v hs hV i j hi hj hu hac) rfl gX5_read_X5_checkAccess rfl rfl rfl rfl (by decide +kernel) ⟨Nat.le_of_ble_eq_true rfl, Nat.le_of_ble_eq_true rfl⟩ dX5_read_12 ⟨by dsimp only; omega, by dsimp only; omega⟩ (Nat.le_of_ble_eq_true rfl) (by omega) (by omega)
set_option maxRecDepth 100000 in
set_option maxHeartbeats 400000 in
theorem t_X5_write_s (l : Launch) (E : gE) (x : St) (hlt : l.stackTraces = false) (v : Vw) (hs : List (Nat × M7)) (hV : VW x v [] hs) (i : Nat) (j : Nat) (w : Nat) (hi : i < 4) (hj : j < 16) (hw : w ≤ 9999) (hu : v.x.AC i 3 0 = nI (nat (v.x.AC i 3 0)) ∧ nat (v.x.AC i 3 0) < 16) (hac : ¬ (v.x.FR i 0 = -1 ∧ v.x.AC i 2 j = -1 ∧ (nI (r_X0_needsWayFor v i j) = 0 ∨ nI (r_X0_lacksVictimRoomFor v i (nat (v.x.AC i 3 0))) = 0))) : Tr l yX5_write wsX5_write { frames := 7, cells := 1, slots := 6, locals := 131 } E [.ref (aD E), .int (nI i), .int (nI j), .int (nI w)] x "java/lang/IllegalStateException" 1 6 := by
  refine Tr.of (cc := cX5_write) (nL := 5) (ret := (some .boolean)) (by decide) rfl (Nat.le_of_ble_eq_true rfl) ?_
  intro p e s m args below meth c h hk hx
  refine g_lvs (lv' := [(0, _), (1, _), (2, _), (3, _)]) rfl ?_
  refine g_aload_n h 0 dX5_write_0 rfl rfl ?_
  refine g_iload_n h 1 dX5_write_1 rfl rfl ?_
  refine g_callV (As := [.int (nI i)]) (C := RX5) h 1 (c_X5_cacheAt l E _ i (by omega)) rfl gX5_write_X5_cacheAt rfl rfl rfl rfl (by decide +kernel) ⟨Nat.le_of_ble_eq_true rfl, Nat.le_of_ble_eq_true rfl⟩ (wat_D E _) rfl rfl dX5_write_2 ⟨by dsimp only; omega, by dsimp only; omega⟩ (Nat.le_of_ble_eq_true rfl) ?_
  rintro _ _ ⟨rfl, hy⟩
  obtain rfl := hy.symm
  dsimp only [Option.toList, List.cons_append, List.nil_append]
  refine g_astore (lv' := [(0, _), (1, _), (2, _), (3, _), (4, _)]) h [1, 2, 3, 4, 0] dX5_write_5 (by decide) rfl ?_
  refine g_iload_n h 2 dX5_write_7 rfl rfl ?_
  refine g_callS (As := [.int (nI j)]) h 1 (c_X5_checkLine l E _ j (by omega)) rfl gX5_write_X5_checkLine rfl rfl rfl rfl (by decide +kernel) ⟨Nat.le_of_ble_eq_true rfl, Nat.le_of_ble_eq_true rfl⟩ dX5_write_8 ⟨by dsimp only; omega, by dsimp only; omega⟩ (Nat.le_of_ble_eq_true rfl) ?_
  rintro _ _ ⟨rfl, hy⟩
  obtain rfl := hy.symm
  dsimp only [Option.toList, List.cons_append, List.nil_append]
  refine g_iload_n h 3 dX5_write_11 rfl rfl ?_
  refine g_if_lt h 22 dX5_write_12 (by decide) (fun c_12 => absurd c_12 (nI_pos (by omega))) (fun c_12 => ?_)
  refine g_iload_n h 3 dX5_write_15 rfl rfl ?_
  refine g_sipush (v := nI 9999) h dX5_write_16 (by decide) ?_
  refine g_icmp_leN h 32 dX5_write_19 (by decide) (by omega) (by omega) (fun c_19 => ?_) (fun c_19 => absurd c_19 (by omega))
  refine g_aload h 4 dX5_write_32 rfl ?_
  refine g_iload_n h 2 dX5_write_34 rfl rfl ?_
  exact g_callSX (As := [.ref (aC E i), .int (nI j)]) h hk hx 2 (t_X5_checkAccess l E x hlt v hs hV i j hi hj hu hac) rfl gX5_write_X5_checkAccess rfl rfl rfl rfl (by decide +kernel) ⟨Nat.le_of_ble_eq_true rfl, Nat.le_of_ble_eq_true rfl⟩ dX5_write_35 ⟨by dsimp only; omega, by dsimp only; omega⟩ (Nat.le_of_ble_eq_true rfl) (by omega) (by omega)
set_option maxRecDepth 100000 in
set_option maxHeartbeats 400000 in
theorem t_X5_setRoom_bw (l : Launch) (E : gE) (x : St) (hlt : l.stackTraces = false) (i : Nat) (w : Int32) (w3 : Int32) (hi : i < 4) (hb : w < nI 1 ∨ nI 4 < w) : Tr l yX5_setRoom wsX5_setRoom { frames := 7, cells := 1, slots := 6, locals := 131 } E [.ref (aD E), .int (nI i), .int w, .int w3] x "java/lang/IllegalArgumentException" 1 6 := by
  refine Tr.of (cc := cX5_setRoom) (nL := 6) (ret := (some .boolean)) (by decide) rfl (Nat.le_of_ble_eq_true rfl) ?_
  intro p e s m args below meth c h hk hx
  refine g_lvs (lv' := [(0, _), (1, _), (2, _), (3, _)]) rfl ?_
  refine g_aload_n h 0 dX5_setRoom_0 rfl rfl ?_
  refine g_iload_n h 1 dX5_setRoom_1 rfl rfl ?_
  refine g_callV (As := [.int (nI i)]) (C := RX5) h 1 (c_X5_cacheAt l E _ i (by omega)) rfl gX5_setRoom_X5_cacheAt rfl rfl rfl rfl (by decide +kernel) ⟨Nat.le_of_ble_eq_true rfl, Nat.le_of_ble_eq_true rfl⟩ (wat_D E _) rfl rfl dX5_setRoom_2 ⟨by dsimp only; omega, by dsimp only; omega⟩ (Nat.le_of_ble_eq_true rfl) ?_
  rintro _ _ ⟨rfl, hy⟩
  obtain rfl := hy.symm
  dsimp only [Option.toList, List.cons_append, List.nil_append]
  refine g_astore (lv' := [(0, _), (1, _), (2, _), (3, _), (4, _)]) h [1, 2, 3, 4, 0] dX5_setRoom_5 (by decide) rfl ?_
  refine g_iload_n h 2 dX5_setRoom_7 rfl rfl ?_
  refine g_iconst (v := nI 1) h dX5_setRoom_8 (by decide) ?_
  refine g_icmp_lt h 17 dX5_setRoom_9 (by decide) (fun c_9 => ?_) (fun c_9 => ?_)
  · skip
    exact g_throwS (EX := "java/lang/IllegalArgumentException") (text := "ways is not 1 to 4") (names := ["java/lang/RuntimeException", "java/lang/Exception"]) (ik := 36) (is := 38) (ic := 40) h hlt hk hx 0 rfl (by decide +kernel) (by decide +kernel) (by decide +kernel) (by decide +kernel) (by decide +kernel) (by decide +kernel) (by decide +kernel) (by decide +kernel) dX5_setRoom_17 dX5_setRoom_20 dX5_setRoom_21 dX5_setRoom_23 dX5_setRoom_26 (Nat.le_of_ble_eq_true rfl) (Nat.le_of_ble_eq_true rfl) (by dsimp only; omega) (by dsimp only; omega) (by omega) (by omega)
  · skip
    refine g_iload_n h 2 dX5_setRoom_12 rfl rfl ?_
    refine g_iconst (v := nI 4) h dX5_setRoom_13 (by decide) ?_
    refine g_icmp_le h 27 dX5_setRoom_14 (by decide) (fun c_14 => ?_) (fun c_14 => ?_)
    · skip
      exact (hb.elim c_9 (fun z => absurd z (Int32.not_lt.mpr c_14))).elim
    · skip
      exact g_throwS (EX := "java/lang/IllegalArgumentException") (text := "ways is not 1 to 4") (names := ["java/lang/RuntimeException", "java/lang/Exception"]) (ik := 36) (is := 38) (ic := 40) h hlt hk hx 0 rfl (by decide +kernel) (by decide +kernel) (by decide +kernel) (by decide +kernel) (by decide +kernel) (by decide +kernel) (by decide +kernel) (by decide +kernel) dX5_setRoom_17 dX5_setRoom_20 dX5_setRoom_21 dX5_setRoom_23 dX5_setRoom_26 (Nat.le_of_ble_eq_true rfl) (Nat.le_of_ble_eq_true rfl) (by dsimp only; omega) (by dsimp only; omega) (by omega) (by omega)
set_option maxRecDepth 100000 in
set_option maxHeartbeats 400000 in
theorem t_X5_setRoom_bv (l : Launch) (E : gE) (x : St) (hlt : l.stackTraces = false) (i : Nat) (a : Nat) (w : Int32) (hi : i < 4) (ha1 : 1 ≤ a) (ha : a ≤ 4) (hb : w < 0 ∨ nI 2 < w) : Tr l yX5_setRoom wsX5_setRoom { frames := 7, cells := 1, slots := 6, locals := 131 } E [.ref (aD E), .int (nI i), .int (nI a), .int w] x "java/lang/IllegalArgumentException" 1 6 := by
  refine Tr.of (cc := cX5_setRoom) (nL := 6) (ret := (some .boolean)) (by decide) rfl (Nat.le_of_ble_eq_true rfl) ?_
  intro p e s m args below meth c h hk hx
  refine g_lvs (lv' := [(0, _), (1, _), (2, _), (3, _)]) rfl ?_
  refine g_aload_n h 0 dX5_setRoom_0 rfl rfl ?_
  refine g_iload_n h 1 dX5_setRoom_1 rfl rfl ?_
  refine g_callV (As := [.int (nI i)]) (C := RX5) h 1 (c_X5_cacheAt l E _ i (by omega)) rfl gX5_setRoom_X5_cacheAt rfl rfl rfl rfl (by decide +kernel) ⟨Nat.le_of_ble_eq_true rfl, Nat.le_of_ble_eq_true rfl⟩ (wat_D E _) rfl rfl dX5_setRoom_2 ⟨by dsimp only; omega, by dsimp only; omega⟩ (Nat.le_of_ble_eq_true rfl) ?_
  rintro _ _ ⟨rfl, hy⟩
  obtain rfl := hy.symm
  dsimp only [Option.toList, List.cons_append, List.nil_append]
  refine g_astore (lv' := [(0, _), (1, _), (2, _), (3, _), (4, _)]) h [1, 2, 3, 4, 0] dX5_setRoom_5 (by decide) rfl ?_
  refine g_iload_n h 2 dX5_setRoom_7 rfl rfl ?_
  refine g_iconst (v := nI 1) h dX5_setRoom_8 (by decide) ?_
  refine g_icmp_ltN h 17 dX5_setRoom_9 (by decide) (by omega) (by omega) (fun c_9 => absurd c_9 (by omega)) (fun c_9 => ?_)
  refine g_iload_n h 2 dX5_setRoom_12 rfl rfl ?_
  refine g_iconst (v := nI 4) h dX5_setRoom_13 (by decide) ?_
  refine g_icmp_leN h 27 dX5_setRoom_14 (by decide) (by omega) (by omega) (fun c_14 => ?_) (fun c_14 => absurd c_14 (by omega))
  refine g_iload_n h 3 dX5_setRoom_27 rfl rfl ?_
  refine g_if_lt h 36 dX5_setRoom_28 (by decide) (fun c_28 => ?_) (fun c_28 => ?_)
  · skip
    exact g_throwS (EX := "java/lang/IllegalArgumentException") (text := "victims is not 0 to 2") (names := ["java/lang/RuntimeException", "java/lang/Exception"]) (ik := 36) (is := 43) (ic := 40) h hlt hk hx 1 rfl (by decide +kernel) (by decide +kernel) (by decide +kernel) (by decide +kernel) (by decide +kernel) (by decide +kernel) (by decide +kernel) (by decide +kernel) dX5_setRoom_36 dX5_setRoom_39 dX5_setRoom_40 dX5_setRoom_42 dX5_setRoom_45 (Nat.le_of_ble_eq_true rfl) (Nat.le_of_ble_eq_true rfl) (by dsimp only; omega) (by dsimp only; omega) (by omega) (by omega)
  · skip
    refine g_iload_n h 3 dX5_setRoom_31 rfl rfl ?_
    refine g_iconst (v := nI 2) h dX5_setRoom_32 (by decide) ?_
    refine g_icmp_le h 46 dX5_setRoom_33 (by decide) (fun c_33 => ?_) (fun c_33 => ?_)
    · skip
      exact (hb.elim c_28 (fun z => absurd z (Int32.not_lt.mpr c_33))).elim
    · skip
      exact g_throwS (EX := "java/lang/IllegalArgumentException") (text := "victims is not 0 to 2") (names := ["java/lang/RuntimeException", "java/lang/Exception"]) (ik := 36) (is := 43) (ic := 40) h hlt hk hx 1 rfl (by decide +kernel) (by decide +kernel) (by decide +kernel) (by decide +kernel) (by decide +kernel) (by decide +kernel) (by decide +kernel) (by decide +kernel) dX5_setRoom_36 dX5_setRoom_39 dX5_setRoom_40 dX5_setRoom_42 dX5_setRoom_45 (Nat.le_of_ble_eq_true rfl) (Nat.le_of_ble_eq_true rfl) (by dsimp only; omega) (by dsimp only; omega) (by omega) (by omega)
set_option maxRecDepth 100000 in
set_option maxHeartbeats 400000 in
theorem t_X5_setRoom_s (l : Launch) (E : gE) (x : St) (hlt : l.stackTraces = false) (v : Vw) (hs : List (Nat × M7)) (hV : VW x v [] hs) (i : Nat) (a : Nat) (b : Nat) (hi : i < 4) (ha1 : 1 ≤ a) (ha : a ≤ 4) (hb : b ≤ 2) (hin : ¬ nI (r_X0_isInUse v i) = 0) : Tr l yX5_setRoom wsX5_setRoom { frames := 7, cells := 1, slots := 6, locals := 131 } E [.ref (aD E), .int (nI i), .int (nI a), .int (nI b)] x "java/lang/IllegalStateException" 1 6 := by
  refine Tr.of (cc := cX5_setRoom) (nL := 6) (ret := (some .boolean)) (by decide) rfl (Nat.le_of_ble_eq_true rfl) ?_
  intro p e s m args below meth c h hk hx
  refine g_lvs (lv' := [(0, _), (1, _), (2, _), (3, _)]) rfl ?_
  refine g_aload_n h 0 dX5_setRoom_0 rfl rfl ?_
  refine g_iload_n h 1 dX5_setRoom_1 rfl rfl ?_
  refine g_callV (As := [.int (nI i)]) (C := RX5) h 1 (c_X5_cacheAt l E _ i (by omega)) rfl gX5_setRoom_X5_cacheAt rfl rfl rfl rfl (by decide +kernel) ⟨Nat.le_of_ble_eq_true rfl, Nat.le_of_ble_eq_true rfl⟩ (wat_D E _) rfl rfl dX5_setRoom_2 ⟨by dsimp only; omega, by dsimp only; omega⟩ (Nat.le_of_ble_eq_true rfl) ?_
  rintro _ _ ⟨rfl, hy⟩
  obtain rfl := hy.symm
  dsimp only [Option.toList, List.cons_append, List.nil_append]
  refine g_astore (lv' := [(0, _), (1, _), (2, _), (3, _), (4, _)]) h [1, 2, 3, 4, 0] dX5_setRoom_5 (by decide) rfl ?_
  refine g_iload_n h 2 dX5_setRoom_7 rfl rfl ?_
  refine g_iconst (v := nI 1) h dX5_setRoom_8 (by decide) ?_
  refine g_icmp_ltN h 17 dX5_setRoom_9 (by decide) (by omega) (by omega) (fun c_9 => absurd c_9 (by omega)) (fun c_9 => ?_)
  refine g_iload_n h 2 dX5_setRoom_12 rfl rfl ?_
  refine g_iconst (v := nI 4) h dX5_setRoom_13 (by decide) ?_
  refine g_icmp_leN h 27 dX5_setRoom_14 (by decide) (by omega) (by omega) (fun c_14 => ?_) (fun c_14 => absurd c_14 (by omega))
  refine g_iload_n h 3 dX5_setRoom_27 rfl rfl ?_
  refine g_if_lt h 36 dX5_setRoom_28 (by decide) (fun c_28 => absurd c_28 (nI_pos (by omega))) (fun c_28 => ?_)
  refine g_iload_n h 3 dX5_setRoom_31 rfl rfl ?_
  refine g_iconst (v := nI 2) h dX5_setRoom_32 (by decide) ?_
  refine g_icmp_leN h 46 dX5_setRoom_33 (by decide) (by omega) (by omega) (fun c_33 => ?_) (fun c_33 => absurd c_33 (by omega))
  refine g_aload h 4 dX5_setRoom_46 rfl ?_
  refine g_callV (As := []) (C := RX0) h 0 (c_X0_isInUse l E _ _ _ _ hV i (by omega)) rfl gX5_setRoom_X0_isInUse rfl rfl rfl rfl (by decide +kernel) ⟨Nat.le_of_ble_eq_true rfl, Nat.le_of_ble_eq_true rfl⟩ (wat_C E _ (by omega)) rfl rfl dX5_setRoom_48 ⟨by dsimp only; omega, by dsimp only; omega⟩ (Nat.le_of_ble_eq_true rfl) ?_
  rintro _ _ ⟨rfl, hy⟩
  obtain rfl := hy.symm
  dsimp only [Option.toList, List.cons_append, List.nil_append]
  refine g_if_eq h 64 dX5_setRoom_51 (by decide) (fun c_51 => absurd c_51 (hin)) (fun c_51 => ?_)
  exact g_throwS (EX := "java/lang/IllegalStateException") (text := "the cache holds a line, or a request is open") (names := ["java/lang/RuntimeException", "java/lang/Exception"]) (ik := 49) (is := 51) (ic := 53) h hlt hk hx 2 rfl (by decide +kernel) (by decide +kernel) (by decide +kernel) (by decide +kernel) (by decide +kernel) (by decide +kernel) (by decide +kernel) (by decide +kernel) dX5_setRoom_54 dX5_setRoom_57 dX5_setRoom_58 dX5_setRoom_60 dX5_setRoom_63 (Nat.le_of_ble_eq_true rfl) (Nat.le_of_ble_eq_true rfl) (by dsimp only; omega) (by dsimp only; omega) (by omega) (by omega)
set_option maxRecDepth 100000 in
set_option maxHeartbeats 400000 in
theorem t_X5_messageKind_bm (l : Launch) (E : gE) (x : St) (hlt : l.stackTraces = false) (v : Vw) (hs : List (Nat × M7)) (hV : VW x v [] hs) (w : Int32) (hb : w < 0 ∨ nI (v.q 16).length ≤ w) : Tr l yX5_messageKind wsX5_messageKind { frames := 7, cells := 1, slots := 6, locals := 131 } E [.ref (aD E), .int w] x "java/lang/IndexOutOfBoundsException" 1 6 := by
  refine Tr.of (cc := cX5_messageKind) (nL := 2) (ret := (some .int)) (by decide) rfl (Nat.le_of_ble_eq_true rfl) ?_
  intro p e s m args below meth c h hk hx
  refine g_lvs (lv' := [(0, _), (1, _)]) rfl ?_
  refine g_aload_n h 0 dX5_messageKind_0 rfl rfl ?_
  refine g_iload_n h 1 dX5_messageKind_1 rfl rfl ?_
  exact g_callVX (As := [.int _]) (C := RX5) h hk hx 1 (t_X5_messageAt l E x hlt v hs hV w hb) rfl gX5_messageKind_X5_messageAt rfl rfl rfl rfl (by decide +kernel) ⟨Nat.le_of_ble_eq_true rfl, Nat.le_of_ble_eq_true rfl⟩ (wat_D E _) rfl rfl dX5_messageKind_2 ⟨by dsimp only; omega, by dsimp only; omega⟩ (Nat.le_of_ble_eq_true rfl) (by omega) (by omega)
set_option maxRecDepth 100000 in
set_option maxHeartbeats 400000 in
theorem t_X5_messageLine_bm (l : Launch) (E : gE) (x : St) (hlt : l.stackTraces = false) (v : Vw) (hs : List (Nat × M7)) (hV : VW x v [] hs) (w : Int32) (hb : w < 0 ∨ nI (v.q 16).length ≤ w) : Tr l yX5_messageLine wsX5_messageLine { frames := 7, cells := 1, slots := 6, locals := 131 } E [.ref (aD E), .int w] x "java/lang/IndexOutOfBoundsException" 1 6 := by
  refine Tr.of (cc := cX5_messageLine) (nL := 2) (ret := (some .int)) (by decide) rfl (Nat.le_of_ble_eq_true rfl) ?_
  intro p e s m args below meth c h hk hx
  refine g_lvs (lv' := [(0, _), (1, _)]) rfl ?_
  refine g_aload_n h 0 dX5_messageLine_0 rfl rfl ?_
  refine g_iload_n h 1 dX5_messageLine_1 rfl rfl ?_
  exact g_callVX (As := [.int _]) (C := RX5) h hk hx 1 (t_X5_messageAt l E x hlt v hs hV w hb) rfl gX5_messageLine_X5_messageAt rfl rfl rfl rfl (by decide +kernel) ⟨Nat.le_of_ble_eq_true rfl, Nat.le_of_ble_eq_true rfl⟩ (wat_D E _) rfl rfl dX5_messageLine_2 ⟨by dsimp only; omega, by dsimp only; omega⟩ (Nat.le_of_ble_eq_true rfl) (by omega) (by omega)
set_option maxRecDepth 100000 in
set_option maxHeartbeats 400000 in
theorem t_X5_messageFrom_bm (l : Launch) (E : gE) (x : St) (hlt : l.stackTraces = false) (v : Vw) (hs : List (Nat × M7)) (hV : VW x v [] hs) (w : Int32) (hb : w < 0 ∨ nI (v.q 16).length ≤ w) : Tr l yX5_messageFrom wsX5_messageFrom { frames := 7, cells := 1, slots := 6, locals := 131 } E [.ref (aD E), .int w] x "java/lang/IndexOutOfBoundsException" 1 6 := by
  refine Tr.of (cc := cX5_messageFrom) (nL := 2) (ret := (some .int)) (by decide) rfl (Nat.le_of_ble_eq_true rfl) ?_
  intro p e s m args below meth c h hk hx
  refine g_lvs (lv' := [(0, _), (1, _)]) rfl ?_
  refine g_aload_n h 0 dX5_messageFrom_0 rfl rfl ?_
  refine g_iload_n h 1 dX5_messageFrom_1 rfl rfl ?_
  exact g_callVX (As := [.int _]) (C := RX5) h hk hx 1 (t_X5_messageAt l E x hlt v hs hV w hb) rfl gX5_messageFrom_X5_messageAt rfl rfl rfl rfl (by decide +kernel) ⟨Nat.le_of_ble_eq_true rfl, Nat.le_of_ble_eq_true rfl⟩ (wat_D E _) rfl rfl dX5_messageFrom_2 ⟨by dsimp only; omega, by dsimp only; omega⟩ (Nat.le_of_ble_eq_true rfl) (by omega) (by omega)
set_option maxRecDepth 100000 in
set_option maxHeartbeats 400000 in
theorem t_X5_messageTo_bm (l : Launch) (E : gE) (x : St) (hlt : l.stackTraces = false) (v : Vw) (hs : List (Nat × M7)) (hV : VW x v [] hs) (w : Int32) (hb : w < 0 ∨ nI (v.q 16).length ≤ w) : Tr l yX5_messageTo wsX5_messageTo { frames := 7, cells := 1, slots := 6, locals := 131 } E [.ref (aD E), .int w] x "java/lang/IndexOutOfBoundsException" 1 6 := by
  refine Tr.of (cc := cX5_messageTo) (nL := 2) (ret := (some .int)) (by decide) rfl (Nat.le_of_ble_eq_true rfl) ?_
  intro p e s m args below meth c h hk hx
  refine g_lvs (lv' := [(0, _), (1, _)]) rfl ?_
  refine g_aload_n h 0 dX5_messageTo_0 rfl rfl ?_
  refine g_iload_n h 1 dX5_messageTo_1 rfl rfl ?_
  exact g_callVX (As := [.int _]) (C := RX5) h hk hx 1 (t_X5_messageAt l E x hlt v hs hV w hb) rfl gX5_messageTo_X5_messageAt rfl rfl rfl rfl (by decide +kernel) ⟨Nat.le_of_ble_eq_true rfl, Nat.le_of_ble_eq_true rfl⟩ (wat_D E _) rfl rfl dX5_messageTo_2 ⟨by dsimp only; omega, by dsimp only; omega⟩ (Nat.le_of_ble_eq_true rfl) (by omega) (by omega)
set_option maxRecDepth 100000 in
set_option maxHeartbeats 400000 in
theorem t_X5_handOver_bm (l : Launch) (E : gE) (x : St) (hlt : l.stackTraces = false) (v : Vw) (hs : List (Nat × M7)) (hV : VW x v [] hs) (w : Int32) (hb : w < 0 ∨ nI (v.q 16).length ≤ w) : Tr l yX5_handOver wsX5_handOver { frames := 7, cells := 1, slots := 6, locals := 131 } E [.ref (aD E), .int w] x "java/lang/IndexOutOfBoundsException" 1 6 := by
  refine Tr.of (cc := cX5_handOver) (nL := 3) (ret := none) (by decide) rfl (Nat.le_of_ble_eq_true rfl) ?_
  intro p e s m args below meth c h hk hx
  refine g_lvs (lv' := [(0, _), (1, _)]) rfl ?_
  refine g_aload_n h 0 dX5_handOver_0 rfl rfl ?_
  refine g_iload_n h 1 dX5_handOver_1 rfl rfl ?_
  exact g_callVX (As := [.int _]) (C := RX5) h hk hx 1 (t_X5_messageAt l E x hlt v hs hV w hb) rfl gX5_handOver_X5_messageAt rfl rfl rfl rfl (by decide +kernel) ⟨Nat.le_of_ble_eq_true rfl, Nat.le_of_ble_eq_true rfl⟩ (wat_D E _) rfl rfl dX5_handOver_2 ⟨by dsimp only; omega, by dsimp only; omega⟩ (Nat.le_of_ble_eq_true rfl) (by omega) (by omega)
set_option maxRecDepth 100000 in
set_option maxHeartbeats 400000 in
theorem t_X5_deliver_bm (l : Launch) (E : gE) (x : St) (hlt : l.stackTraces = false) (v : Vw) (hs : List (Nat × M7)) (hV : VW x v [] hs) (w : Int32) (hb : w < 0 ∨ nI (v.q 16).length ≤ w) : Tr l yX5_deliver wsX5_deliver { frames := 8, cells := 1, slots := 6, locals := 153 } E [.ref (aD E), .int w] x "java/lang/IndexOutOfBoundsException" 1 6 := by
  refine Tr.of (cc := cX5_deliver) (nL := 2) (ret := (some .int)) (by decide) rfl (Nat.le_of_ble_eq_true rfl) ?_
  intro p e s m args below meth c h hk hx
  refine g_lvs (lv' := [(0, _), (1, _)]) rfl ?_
  refine g_aload_n h 0 dX5_deliver_0 rfl rfl ?_
  refine g_iload_n h 1 dX5_deliver_1 rfl rfl ?_
  exact g_callVX (As := [.int _]) (C := RX5) h hk hx 1 (t_X5_handOver_bm l E x hlt v hs hV w hb) rfl gX5_deliver_X5_handOver rfl rfl rfl rfl (by decide +kernel) ⟨Nat.le_of_ble_eq_true rfl, Nat.le_of_ble_eq_true rfl⟩ (wat_D E _) rfl rfl dX5_deliver_2 ⟨by dsimp only; omega, by dsimp only; omega⟩ (Nat.le_of_ble_eq_true rfl) (by omega) (by omega)
set_option maxRecDepth 100000 in
set_option maxHeartbeats 400000 in
theorem t_X5_settle_b (l : Launch) (E : gE) (x : St) (hlt : l.stackTraces = false) (w : Int32) (hb : w < 0 ∨ nI 1000 < w) : Tr l yX5_settle wsX5_settle { frames := 6, cells := 1, slots := 6, locals := 110 } E [.ref (aD E), .int w] x "java/lang/IllegalArgumentException" 1 6 := by
  refine Tr.of (cc := cX5_settle) (nL := 3) (ret := (some .int)) (by decide) rfl (Nat.le_of_ble_eq_true rfl) ?_
  intro p e s m args below meth c h hk hx
  refine g_lvs (lv' := [(0, _), (1, _)]) rfl ?_
  refine g_iload_n h 1 dX5_settle_0 rfl rfl ?_
  refine g_if_lt h 11 dX5_settle_1 (by decide) (fun c_1 => ?_) (fun c_1 => ?_)
  · skip
    exact g_throwS (EX := "java/lang/IllegalArgumentException") (text := "most is not 0 to 1000") (names := ["java/lang/RuntimeException", "java/lang/Exception"]) (ik := 36) (is := 184) (ic := 40) h hlt hk hx 7 rfl (by decide +kernel) (by decide +kernel) (by decide +kernel) (by decide +kernel) (by decide +kernel) (by decide +kernel) (by decide +kernel) (by decide +kernel) dX5_settle_11 dX5_settle_14 dX5_settle_15 dX5_settle_17 dX5_settle_20 (Nat.le_of_ble_eq_true rfl) (Nat.le_of_ble_eq_true rfl) (by dsimp only; omega) (by dsimp only; omega) (by omega) (by omega)
  · skip
    refine g_iload_n h 1 dX5_settle_4 rfl rfl ?_
    refine g_sipush (v := nI 1000) h dX5_settle_5 (by decide) ?_
    refine g_icmp_le h 21 dX5_settle_8 (by decide) (fun c_8 => ?_) (fun c_8 => ?_)
    · skip
      exact (hb.elim c_1 (fun z => absurd z (Int32.not_lt.mpr c_8))).elim
    · skip
      exact g_throwS (EX := "java/lang/IllegalArgumentException") (text := "most is not 0 to 1000") (names := ["java/lang/RuntimeException", "java/lang/Exception"]) (ik := 36) (is := 184) (ic := 40) h hlt hk hx 7 rfl (by decide +kernel) (by decide +kernel) (by decide +kernel) (by decide +kernel) (by decide +kernel) (by decide +kernel) (by decide +kernel) (by decide +kernel) dX5_settle_11 dX5_settle_14 dX5_settle_15 dX5_settle_17 dX5_settle_20 (Nat.le_of_ble_eq_true rfl) (Nat.le_of_ble_eq_true rfl) (by dsimp only; omega) (by dsimp only; omega) (by omega) (by omega)
