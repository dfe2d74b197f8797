theorem in_X4_open_X4 : ∀ w ∈ wsX40, w ∈ wsX4_open := by decide +kernel
theorem lk_X4_open_9 : Cond.fieldLink RX4 9 "CacheDirectory$Request" "line" "I" ∈ wsX4_open := by decide +kernel
theorem lk_X4_open_15 : Cond.fieldLink RX4 15 "CacheDirectory$Request" "forWriting" "Z" ∈ wsX4_open := by decide +kernel
theorem lk_X4_open_19 : Cond.fieldLink RX4 19 "CacheDirectory$Request" "toWrite" "I" ∈ wsX4_open := by decide +kernel
theorem lk_X4_open_22 : Cond.fieldLink RX4 22 "CacheDirectory$Request" "answered" "Z" ∈ wsX4_open := by decide +kernel
theorem lk_X4_open_25 : Cond.fieldLink RX4 25 "CacheDirectory$Request" "invalidationsDone" "I" ∈ wsX4_open := by decide +kernel
def s_X4_open (v : Vw) (i : Nat) (b : Int32) (w : Int32) (a : Int32) : Vw :=
  let x1 := vFR v i 0 b
  let x2 := vFR x1 i 1 w
  let x3 := vFR x2 i 2 a
  let x4 := vFR x3 i 3 (nI 0)
  let x5 := vFR x4 i 6 (nI 0)
  x5
set_option maxRecDepth 100000 in
set_option maxHeartbeats 400000 in
theorem c_X4_open (l : Launch) (E : gE) (x : St) (v : Vw) (pn hs : List (Nat × M7)) (hV : VW x v pn hs) (i : Nat) (b : Int32) (w : Int32) (a : Int32) (hi : i < 4) (hw : w = 0 ∨ w = 1) : Ct l yX4_open wsX4_open { frames := 0, cells := 0, slots := 0, locals := 0 } E [.ref (aR E i), .int b, .int w, .int a] x (fun u y => u = none ∧ VW y (s_X4_open v i b w a) pn hs) 0 0 := by
  refine Ct.of (cc := cX4_open) (nL := 4) (ret := none) (by decide) rfl (Nat.le_of_ble_eq_true rfl) ?_
  intro p e s m args below meth c h hr hk hname
  refine g_lvs (lv' := [(0, _), (1, _), (2, _), (3, _)]) rfl ?_
  refine g_aload_n h 0 dX4_open_0 rfl rfl ?_
  refine g_iload_n h 1 dX4_open_1 rfl rfl ?_
  refine g_put (C := RX4) (T := TX4) (N := 7) h 0 tyX4 (ws_R0 E _ (by omega) _) rfl in_X4_open_X4 tyX4_ok nmX4 (by decide) lk_X4_open_9 rfl rfl rfl rfl rfl (Nat.le_of_ble_eq_true rfl) dX4_open_2 ?_
  refine g_gen hV.setFR (fun y hV => ?_)
  refine g_aload_n h 0 dX4_open_5 rfl rfl ?_
  refine g_iload_n h 2 dX4_open_6 rfl rfl ?_
  refine g_put (C := RX4) (T := TX4) (N := 7) h 1 tyX4 (ws_R1 E _ (by omega) _) rfl in_X4_open_X4 tyX4_ok nmX4 (by decide) lk_X4_open_15 rfl rfl rfl (bz hw).1 (bz hw).2 (Nat.le_of_ble_eq_true rfl) dX4_open_7 ?_
  refine g_gen hV.setFR (fun y hV => ?_)
  refine g_aload_n h 0 dX4_open_10 rfl rfl ?_
  refine g_iload_n h 3 dX4_open_11 rfl rfl ?_
  refine g_put (C := RX4) (T := TX4) (N := 7) h 2 tyX4 (ws_R2 E _ (by omega) _) rfl in_X4_open_X4 tyX4_ok nmX4 (by decide) lk_X4_open_19 rfl rfl rfl rfl rfl (Nat.le_of_ble_eq_true rfl) dX4_open_12 ?_
  refine g_gen hV.setFR (fun y hV => ?_)
  refine g_aload_n h 0 dX4_open_15 rfl rfl ?_
  refine g_iconst (v := nI 0) h dX4_open_16 (by decide) ?_
  refine g_put (C := RX4) (T := TX4) (N := 7) h 3 tyX4 (ws_R3 E _ (by omega) _) rfl in_X4_open_X4 tyX4_ok nmX4 (by decide) lk_X4_open_22 rfl rfl rfl (by decide) (by decide) (Nat.le_of_ble_eq_true rfl) dX4_open_17 ?_
  refine g_gen hV.setFR (fun y hV => ?_)
  refine g_aload_n h 0 dX4_open_20 rfl rfl ?_
  refine g_iconst (v := nI 0) h dX4_open_21 (by decide) ?_
  refine g_put (C := RX4) (T := TX4) (N := 7) h 6 tyX4 (ws_R6 E _ (by omega) _) rfl in_X4_open_X4 tyX4_ok nmX4 (by decide) lk_X4_open_25 rfl rfl rfl rfl rfl (Nat.le_of_ble_eq_true rfl) dX4_open_22 ?_
  refine g_gen hV.setFR (fun y hV => ?_)
  exact g_vret h hr hk dX4_open_25 (Nat.zero_le _) (Nat.zero_le _) ⟨rfl, hV.cast (Eq.symm rfl)⟩
theorem in_X4_isComplete_X4 : ∀ w ∈ wsX40, w ∈ wsX4_isComplete := by decide +kernel
theorem lk_X4_isComplete_22 : Cond.fieldLink RX4 22 "CacheDirectory$Request" "answered" "Z" ∈ wsX4_isComplete := by decide +kernel
theorem lk_X4_isComplete_25 : Cond.fieldLink RX4 25 "CacheDirectory$Request" "invalidationsDone" "I" ∈ wsX4_isComplete := by decide +kernel
theorem lk_X4_isComplete_28 : Cond.fieldLink RX4 28 "CacheDirectory$Request" "invalidationsDue" "I" ∈ wsX4_isComplete := by decide +kernel
def r_X4_isComplete (v : Vw) (i : Nat) : Nat :=
  if (v.x.FR i 3) = 0 then
    0
  else
    if (v.x.FR i 6) = (v.x.FR i 5) then
      1
    else
      0
set_option maxRecDepth 100000 in
set_option maxHeartbeats 400000 in
theorem c_X4_isComplete (l : Launch) (E : gE) (x : St) (v : Vw) (pn hs : List (Nat × M7)) (hV : VW x v pn hs) (i : Nat) (hi : i < 4) : Ct l yX4_isComplete wsX4_isComplete { frames := 0, cells := 0, slots := 0, locals := 0 } E [.ref (aR E i)] x (fun u y => u = some (.int (nI (r_X4_isComplete v i))) ∧ y = x) 0 0 := by
  refine Ct.of (cc := cX4_isComplete) (nL := 1) (ret := (some .boolean)) (by decide) rfl (Nat.le_of_ble_eq_true rfl) ?_
  intro p e s m args below meth c h hr hk hname
  refine g_lvs (lv' := [(0, _)]) rfl ?_
  refine g_aload_n h 0 dX4_isComplete_0 rfl rfl ?_
  refine g_get (C := RX4) (T := TX4) (N := 7) h 3 (wat_R E _ (by omega)) rfl in_X4_isComplete_X4 (by decide) lk_X4_isComplete_22 rfl rfl dX4_isComplete_1 ?_
  refine g_eqi (hV.FR _ _) ?_
  refine g_if_eq h 22 dX4_isComplete_4 (by decide) (fun c_4 => ?_) (fun c_4 => ?_)
  · skip
    refine g_iconst (v := nI 0) h dX4_isComplete_22 (by decide) ?_
    exact g_zret h hr hk (by decide) dX4_isComplete_23 (Nat.zero_le _) (Nat.zero_le _) ⟨congrArg (fun z => some (Value.int (nI z))) (Eq.symm (if_pos c_4)), rfl⟩
  · skip
    refine g_aload_n h 0 dX4_isComplete_7 rfl rfl ?_
    refine g_get (C := RX4) (T := TX4) (N := 7) h 6 (wat_R E _ (by omega)) rfl in_X4_isComplete_X4 (by decide) lk_X4_isComplete_25 rfl rfl dX4_isComplete_8 ?_
    refine g_eqi (hV.FR _ _) ?_
    refine g_aload_n h 0 dX4_isComplete_11 rfl rfl ?_
    refine g_get (C := RX4) (T := TX4) (N := 7) h 5 (wat_R E _ (by omega)) rfl in_X4_isComplete_X4 (by decide) lk_X4_isComplete_28 rfl rfl dX4_isComplete_12 ?_
    refine g_eqi (hV.FR _ _) ?_
    refine g_icmp_ne h 22 dX4_isComplete_15 (by decide) (fun c_15 => ?_) (fun c_15 => ?_)
    · skip
      refine g_iconst (v := nI 0) h dX4_isComplete_22 (by decide) ?_
      exact g_zret h hr hk (by decide) dX4_isComplete_23 (Nat.zero_le _) (Nat.zero_le _) ⟨congrArg (fun z => some (Value.int (nI z))) (Eq.symm (Eq.trans (if_neg c_4) (if_neg c_15))), rfl⟩
    · skip
      refine g_iconst (v := nI 1) h dX4_isComplete_18 (by decide) ?_
      refine g_goto h 23 dX4_isComplete_19 (by decide) ?_
      exact g_zret h hr hk (by decide) dX4_isComplete_23 (Nat.zero_le _) (Nat.zero_le _) ⟨congrArg (fun z => some (Value.int (nI z))) (Eq.symm (Eq.trans (if_neg c_4) (if_pos c_15))), rfl⟩
theorem in_X0_isInUse_X0 : ∀ w ∈ wsX00, w ∈ wsX0_isInUse := by decide +kernel
theorem in_X0_isInUse_X4 : ∀ w ∈ wsX40, w ∈ wsX0_isInUse := by decide +kernel
theorem lk_X0_isInUse_31 : Cond.fieldLink RX0 31 "CacheDirectory$Cache" "lineCount" "I" ∈ wsX0_isInUse := by decide +kernel
theorem lk_X0_isInUse_35 : Cond.fieldLink RX0 35 "CacheDirectory$Cache" "victimCount" "I" ∈ wsX0_isInUse := by decide +kernel
theorem lk_X0_isInUse_12 : Cond.fieldLink RX0 12 "CacheDirectory$Cache" "request" "LCacheDirectory$Request;" ∈ wsX0_isInUse := by decide +kernel
theorem lk_X0_isInUse_60 : Cond.fieldLink RX0 60 "CacheDirectory$Request" "line" "I" ∈ wsX0_isInUse := by decide +kernel
def r_X0_isInUse (v : Vw) (i : Nat) : Nat :=
  if 0 < (v.x.FC i 7) then
    1
  else
    if 0 < (v.x.FC i 8) then
      1
    else
      if (v.x.FR i 0) = ((-1 : Int32)) then
        0
      else
        1
set_option maxRecDepth 100000 in
set_option maxHeartbeats 400000 in
theorem c_X0_isInUse (l : Launch) (E : gE) (x : St) (v : Vw) (pn hs : List (Nat × M7)) (hV : VW x v pn hs) (i : Nat) (hi : i < 4) : Ct l yX0_isInUse wsX0_isInUse { frames := 0, cells := 0, slots := 0, locals := 0 } E [.ref (aC E i)] x (fun u y => u = some (.int (nI (r_X0_isInUse v i))) ∧ y = x) 0 0 := by
  refine Ct.of (cc := cX0_isInUse) (nL := 1) (ret := (some .boolean)) (by decide) rfl (Nat.le_of_ble_eq_true rfl) ?_
  intro p e s m args below meth c h hr hk hname
  refine g_lvs (lv' := [(0, _)]) rfl ?_
  refine g_aload_n h 0 dX0_isInUse_0 rfl rfl ?_
  refine g_get (C := RX0) (T := TX0) (N := 14) h 7 (wat_C E _ (by omega)) rfl in_X0_isInUse_X0 (by decide) lk_X0_isInUse_31 rfl rfl dX0_isInUse_1 ?_
  refine g_eqi (hV.FC _ _) ?_
  refine g_if_gt h 25 dX0_isInUse_4 (by decide) (fun c_4 => ?_) (fun c_4 => ?_)
  · skip
    refine g_iconst (v := nI 1) h dX0_isInUse_25 (by decide) ?_
    refine g_goto h 30 dX0_isInUse_26 (by decide) ?_
    exact g_zret h hr hk (by decide) dX0_isInUse_30 (Nat.zero_le _) (Nat.zero_le _) ⟨congrArg (fun z => some (Value.int (nI z))) (Eq.symm (if_pos c_4)), rfl⟩
  · skip
    refine g_aload_n h 0 dX0_isInUse_7 rfl rfl ?_
    refine g_get (C := RX0) (T := TX0) (N := 14) h 8 (wat_C E _ (by omega)) rfl in_X0_isInUse_X0 (by decide) lk_X0_isInUse_35 rfl rfl dX0_isInUse_8 ?_
    refine g_eqi (hV.FC _ _) ?_
    refine g_if_gt h 25 dX0_isInUse_11 (by decide) (fun c_11 => ?_) (fun c_11 => ?_)
    · skip
      refine g_iconst (v := nI 1) h dX0_isInUse_25 (by decide) ?_
      refine g_goto h 30 dX0_isInUse_26 (by decide) ?_
      exact g_zret h hr hk (by decide) dX0_isInUse_30 (Nat.zero_le _) (Nat.zero_le _) ⟨congrArg (fun z => some (Value.int (nI z))) (Eq.symm (Eq.trans (if_neg c_4) (if_pos c_11))), rfl⟩
    · skip
      refine g_aload_n h 0 dX0_isInUse_14 rfl rfl ?_
      refine g_get (C := RX0) (T := TX0) (N := 14) h 2 (wat_C E _ (by omega)) rfl in_X0_isInUse_X0 (by decide) lk_X0_isInUse_12 rfl rfl dX0_isInUse_15 ?_
      refine g_get (C := RX4) (T := TX4) (N := 7) h 0 (wat_R E _ (by omega)) rfl in_X0_isInUse_X4 (by decide) lk_X0_isInUse_60 rfl rfl dX0_isInUse_18 ?_
      refine g_eqi (hV.FR _ _) ?_
      refine g_iconst (v := -1) h dX0_isInUse_21 (by decide) ?_
      refine g_icmp_eq h 29 dX0_isInUse_22 (by decide) (fun c_22 => ?_) (fun c_22 => ?_)
      · skip
        refine g_iconst (v := nI 0) h dX0_isInUse_29 (by decide) ?_
        exact g_zret h hr hk (by decide) dX0_isInUse_30 (Nat.zero_le _) (Nat.zero_le _) ⟨congrArg (fun z => some (Value.int (nI z))) (Eq.symm (Eq.trans (if_neg c_4) (Eq.trans (if_neg c_11) (if_pos c_22)))), rfl⟩
      · skip
        refine g_iconst (v := nI 1) h dX0_isInUse_25 (by decide) ?_
        refine g_goto h 30 dX0_isInUse_26 (by decide) ?_
        exact g_zret h hr hk (by decide) dX0_isInUse_30 (Nat.zero_le _) (Nat.zero_le _) ⟨congrArg (fun z => some (Value.int (nI z))) (Eq.symm (Eq.trans (if_neg c_4) (Eq.trans (if_neg c_11) (if_neg c_22)))), rfl⟩
theorem in_X0_holds_X0 : ∀ w ∈ wsX00, w ∈ wsX0_holds := by decide +kernel
theorem lk_X0_holds_18 : Cond.fieldLink RX0 18 "CacheDirectory$Cache" "states" "[I" ∈ wsX0_holds := by decide +kernel
def r_X0_holds (v : Vw) (i : Nat) (j : Nat) : Nat :=
  if (v.x.AC i 0 j) = 0 then
    0
  else
    1
set_option maxRecDepth 100000 in
set_option maxHeartbeats 400000 in
theorem c_X0_holds (l : Launch) (E : gE) (x : St) (v : Vw) (pn hs : List (Nat × M7)) (hV : VW x v pn hs) (i : Nat) (j : Nat) (hi : i < 4) (hj : j < 16) : Ct l yX0_holds wsX0_holds { frames := 0, cells := 0, slots := 0, locals := 0 } E [.ref (aC E i), .int (nI j)] x (fun u y => u = some (.int (nI (r_X0_holds v i j))) ∧ y = x) 0 0 := by
  refine Ct.of (cc := cX0_holds) (nL := 2) (ret := (some .boolean)) (by decide) rfl (Nat.le_of_ble_eq_true rfl) ?_
  intro p e s m args below meth c h hr hk hname
  refine g_lvs (lv' := [(0, _), (1, _)]) rfl ?_
  refine g_aload_n h 0 dX0_holds_0 rfl rfl ?_
  refine g_get (C := RX0) (T := TX0) (N := 14) h 3 (wat_C E _ (by omega)) rfl in_X0_holds_X0 (by decide) lk_X0_holds_18 rfl rfl dX0_holds_1 ?_
  refine g_iload_n h 1 dX0_holds_4 rfl rfl ?_
  refine g_iald (n := 16) h (wat_A16 E _ (by omega) (by decide)) (by omega) (by decide) dX0_holds_5 ?_
  refine g_eqi (hV.AC _ _ _) ?_
  refine g_if_eq h 13 dX0_holds_6 (by decide) (fun c_6 => ?_) (fun c_6 => ?_)
  · skip
    refine g_iconst (v := nI 0) h dX0_holds_13 (by decide) ?_
    exact g_zret h hr hk (by decide) dX0_holds_14 (Nat.zero_le _) (Nat.zero_le _) ⟨congrArg (fun z => some (Value.int (nI z))) (Eq.symm (if_pos c_6)), rfl⟩
  · skip
    refine g_iconst (v := nI 1) h dX0_holds_9 (by decide) ?_
    refine g_goto h 14 dX0_holds_10 (by decide) ?_
    exact g_zret h hr hk (by decide) dX0_holds_14 (Nat.zero_le _) (Nat.zero_le _) ⟨congrArg (fun z => some (Value.int (nI z))) (Eq.symm (if_neg c_6)), rfl⟩
theorem in_X0_needsWayFor_X0 : ∀ w ∈ wsX00, w ∈ wsX0_needsWayFor := by decide +kernel
theorem lk_X0_needsWayFor_31 : Cond.fieldLink RX0 31 "CacheDirectory$Cache" "lineCount" "I" ∈ wsX0_needsWayFor := by decide +kernel
theorem lk_X0_needsWayFor_38 : Cond.fieldLink RX0 38 "CacheDirectory$Cache" "ways" "I" ∈ wsX0_needsWayFor := by decide +kernel
def r_X0_needsWayFor (v : Vw) (i : Nat) (j : Nat) : Nat :=
  if (nI (r_X0_holds v i j)) = 0 then
    if (v.x.FC i 7) < (v.x.FC i 9) then
      0
    else
      1
  else
    0
set_option maxRecDepth 100000 in
set_option maxHeartbeats 400000 in
theorem c_X0_needsWayFor (l : Launch) (E : gE) (x : St) (v : Vw) (pn hs : List (Nat × M7)) (hV : VW x v pn hs) (i : Nat) (j : Nat) (hi : i < 4) (hj : j < 16) : Ct l yX0_needsWayFor wsX0_needsWayFor { frames := 1, cells := 0, slots := 0, locals := 21 } E [.ref (aC E i), .int (nI j)] x (fun u y => u = some (.int (nI (r_X0_needsWayFor v i j))) ∧ y = x) 0 0 := by
  refine Ct.of (cc := cX0_needsWayFor) (nL := 2) (ret := (some .boolean)) (by decide) rfl (Nat.le_of_ble_eq_true rfl) ?_
  intro p e s m args below meth c h hr hk hname
  refine g_lvs (lv' := [(0, _), (1, _)]) rfl ?_
  refine g_aload_n h 0 dX0_needsWayFor_0 rfl rfl ?_
  refine g_iload_n h 1 dX0_needsWayFor_1 rfl rfl ?_
  refine g_callV (As := [.int (nI j)]) (C := RX0) h 1 (c_X0_holds l E _ _ _ _ hV i j (by omega) (by omega)) rfl gX0_needsWayFor_X0_holds rfl rfl rfl rfl (by decide +kernel) ⟨Nat.le_of_ble_eq_true rfl, Nat.le_of_ble_eq_true rfl⟩ (wat_C E _ (by omega)) rfl rfl dX0_needsWayFor_2 ⟨Nat.le_refl _, Nat.le_refl _⟩ (Nat.le_of_ble_eq_true rfl) ?_
  rintro _ _ ⟨rfl, hy⟩
  obtain rfl := hy.symm
  dsimp only [Option.toList, List.cons_append, List.nil_append]
  refine g_if_ne h 23 dX0_needsWayFor_5 (by decide) (fun c_5 => ?_) (fun c_5 => ?_)
  · skip
    refine g_iconst (v := nI 0) h dX0_needsWayFor_23 (by decide) ?_
    exact g_zret h hr hk (by decide) dX0_needsWayFor_24 (Nat.zero_le _) (Nat.zero_le _) ⟨congrArg (fun z => some (Value.int (nI z))) (Eq.symm (if_neg c_5)), rfl⟩
  · skip
    refine g_aload_n h 0 dX0_needsWayFor_8 rfl rfl ?_
    refine g_get (C := RX0) (T := TX0) (N := 14) h 7 (wat_C E _ (by omega)) rfl in_X0_needsWayFor_X0 (by decide) lk_X0_needsWayFor_31 rfl rfl dX0_needsWayFor_9 ?_
    refine g_eqi (hV.FC _ _) ?_
    refine g_aload_n h 0 dX0_needsWayFor_12 rfl rfl ?_
    refine g_get (C := RX0) (T := TX0) (N := 14) h 9 (wat_C E _ (by omega)) rfl in_X0_needsWayFor_X0 (by decide) lk_X0_needsWayFor_38 rfl rfl dX0_needsWayFor_13 ?_
    refine g_eqi (hV.FC _ _) ?_
    refine g_icmp_lt h 23 dX0_needsWayFor_16 (by decide) (fun c_16 => ?_) (fun c_16 => ?_)
    · skip
      refine g_iconst (v := nI 0) h dX0_needsWayFor_23 (by decide) ?_
      exact g_zret h hr hk (by decide) dX0_needsWayFor_24 (Nat.zero_le _) (Nat.zero_le _) ⟨congrArg (fun z => some (Value.int (nI z))) (Eq.symm (Eq.trans (if_pos c_5) (if_pos c_16))), rfl⟩
    · skip
      refine g_iconst (v := nI 1) h dX0_needsWayFor_19 (by decide) ?_
      refine g_goto h 24 dX0_needsWayFor_20 (by decide) ?_
      exact g_zret h hr hk (by decide) dX0_needsWayFor_24 (Nat.zero_le _) (Nat.zero_le _) ⟨congrArg (fun z => some (Value.int (nI z))) (Eq.symm (Eq.trans (if_pos c_5) (if_neg c_16))), rfl⟩
theorem in_X0_lacksVictimRoomFor_X0 : ∀ w ∈ wsX00, w ∈ wsX0_lacksVictimRoomFor := by decide +kernel
theorem lk_X0_lacksVictimRoomFor_18 : Cond.fieldLink RX0 18 "CacheDirectory$Cache" "states" "[I" ∈ wsX0_lacksVictimRoomFor := by decide +kernel
theorem lk_X0_lacksVictimRoomFor_35 : Cond.fieldLink RX0 35 "CacheDirectory$Cache" "victimCount" "I" ∈ wsX0_lacksVictimRoomFor := by decide +kernel
theorem lk_X0_lacksVictimRoomFor_41 : Cond.fieldLink RX0 41 "CacheDirectory$Cache" "victimRoom" "I" ∈ wsX0_lacksVictimRoomFor := by decide +kernel
def r_X0_lacksVictimRoomFor (v : Vw) (i : Nat) (j : Nat) : Nat :=
  if (v.x.AC i 0 j) = (nI 1) then
    0
  else
    if (v.x.FC i 8) < (v.x.FC i 10) then
      0
    else
      1
set_option maxRecDepth 100000 in
set_option maxHeartbeats 400000 in
theorem c_X0_lacksVictimRoomFor (l : Launch) (E : gE) (x : St) (v : Vw) (pn hs : List (Nat × M7)) (hV : VW x v pn hs) (i : Nat) (j : Nat) (hi : i < 4) (hj : j < 16) : Ct l yX0_lacksVictimRoomFor wsX0_lacksVictimRoomFor { frames := 0, cells := 0, slots := 0, locals := 0 } E [.ref (aC E i), .int (nI j)] x (fun u y => u = some (.int (nI (r_X0_lacksVictimRoomFor v i j))) ∧ y = x) 0 0 := by
  refine Ct.of (cc := cX0_lacksVictimRoomFor) (nL := 2) (ret := (some .boolean)) (by decide) rfl (Nat.le_of_ble_eq_true rfl) ?_
  intro p e s m args below meth c h hr hk hname
  refine g_lvs (lv' := [(0, _), (1, _)]) rfl ?_
  refine g_aload_n h 0 dX0_lacksVictimRoomFor_0 rfl rfl ?_
  refine g_get (C := RX0) (T := TX0) (N := 14) h 3 (wat_C E _ (by omega)) rfl in_X0_lacksVictimRoomFor_X0 (by decide) lk_X0_lacksVictimRoomFor_18 rfl rfl dX0_lacksVictimRoomFor_1 ?_
  refine g_iload_n h 1 dX0_lacksVictimRoomFor_4 rfl rfl ?_
  refine g_iald (n := 16) h (wat_A16 E _ (by omega) (by decide)) (by omega) (by decide) dX0_lacksVictimRoomFor_5 ?_
  refine g_eqi (hV.AC _ _ _) ?_
  refine g_iconst (v := nI 1) h dX0_lacksVictimRoomFor_6 (by decide) ?_
  refine g_icmp_eq h 25 dX0_lacksVictimRoomFor_7 (by decide) (fun c_7 => ?_) (fun c_7 => ?_)
  · skip
    refine g_iconst (v := nI 0) h dX0_lacksVictimRoomFor_25 (by decide) ?_
    exact g_zret h hr hk (by decide) dX0_lacksVictimRoomFor_26 (Nat.zero_le _) (Nat.zero_le _) ⟨congrArg (fun z => some (Value.int (nI z))) (Eq.symm (if_pos c_7)), rfl⟩
  · skip
    refine g_aload_n h 0 dX0_lacksVictimRoomFor_10 rfl rfl ?_
    refine g_get (C := RX0) (T := TX0) (N := 14) h 8 (wat_C E _ (by omega)) rfl in_X0_lacksVictimRoomFor_X0 (by decide) lk_X0_lacksVictimRoomFor_35 rfl rfl dX0_lacksVictimRoomFor_11 ?_
    refine g_eqi (hV.FC _ _) ?_
    refine g_aload_n h 0 dX0_lacksVictimRoomFor_14 rfl rfl ?_
    refine g_get (C := RX0) (T := TX0) (N := 14) h 10 (wat_C E _ (by omega)) rfl in_X0_lacksVictimRoomFor_X0 (by decide) lk_X0_lacksVictimRoomFor_41 rfl rfl dX0_lacksVictimRoomFor_15 ?_
    refine g_eqi (hV.FC _ _) ?_
    refine g_icmp_lt h 25 dX0_lacksVictimRoomFor_18 (by decide) (fun c_18 => ?_) (fun c_18 => ?_)
    · skip
      refine g_iconst (v := nI 0) h dX0_lacksVictimRoomFor_25 (by decide) ?_
      exact g_zret h hr hk (by decide) dX0_lacksVictimRoomFor_26 (Nat.zero_le _) (Nat.zero_le _) ⟨congrArg (fun z => some (Value.int (nI z))) (Eq.symm (Eq.trans (if_neg c_7) (if_pos c_18))), rfl⟩
    · skip
      refine g_iconst (v := nI 1) h dX0_lacksVictimRoomFor_21 (by decide) ?_
      refine g_goto h 26 dX0_lacksVictimRoomFor_22 (by decide) ?_
      exact g_zret h hr hk (by decide) dX0_lacksVictimRoomFor_26 (Nat.zero_le _) (Nat.zero_le _) ⟨congrArg (fun z => some (Value.int (nI z))) (Eq.symm (Eq.trans (if_neg c_7) (if_neg c_18))), rfl⟩
