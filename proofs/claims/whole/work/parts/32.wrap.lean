set_option maxRecDepth 100000 in
set_option maxHeartbeats 400000 in
theorem w_setRoom (l : Launch) (E : gE) (x : St) (hlt : l.stackTraces = false) (v : Vw) (hV : VW x v [] []) (i : Nat) (w : Nat) (b : Nat) (hi : i < 4) (hw1 : 1 ≤ w) (hw : w ≤ 4) (hb : b ≤ 2) (hin : nI (r_X0_isInUse v i) = 0) : Ct l yL_setRoom wsL_setRoom { frames := 15, cells := 0, slots := 0, locals := 600 } E [.ref (aD E), .int (nI i), .int (nI w), .int (nI b), .ref (aO E)] x (fun u y => u = some (.int (nI 0)) ∧ VW y (vOU (s_X5_setRoom v i w b) (if nI (r_X5_setRoom v i w b) = 0 then 0 else 1)) [] []) 0 0 := by
  refine CtW.of (cc := cL_setRoom) (nL := 6) (ret := (some .int)) (hh := [(0, 19, 22, 13), (0, 19, 26, 15), (0, 19, 30, 17)]) (by decide) rfl (Nat.le_of_ble_eq_true rfl) ?_
  intro p e s m args below meth c h hr hk htab
  refine g_lvs (lv' := [(0, _), (1, _), (2, _), (3, _), (4, _)]) rfl ?_
  refine g_aload h 4 dL_setRoom_0 rfl ?_
  refine g_iconst (v := nI 0) h dL_setRoom_2 (by decide) ?_
  refine g_aload_n h 0 dL_setRoom_3 rfl rfl ?_
  refine g_iload_n h 1 dL_setRoom_4 rfl rfl ?_
  refine g_iload_n h 2 dL_setRoom_5 rfl rfl ?_
  refine g_iload_n h 3 dL_setRoom_6 rfl rfl ?_
  refine g_callV (As := [.int (nI i), .int (nI w), .int (nI b)]) (C := RX5) h 3 (c_X5_setRoom l E _ v [] hV i w b hi hw1 hw hb hin) rfl gL_setRoom_X5_setRoom rfl rfl rfl rfl (by decide +kernel) ⟨Nat.le_of_ble_eq_true rfl, Nat.le_of_ble_eq_true rfl⟩ (wat_D E _) rfl rfl dL_setRoom_7 ⟨by dsimp only; omega, by dsimp only; omega⟩ (Nat.le_of_ble_eq_true rfl) ?_
  rintro _ y ⟨rfl, hV⟩
  dsimp only [Option.toList, List.cons_append, List.nil_append]
  refine g_if_eq h 17 dL_setRoom_10 (by decide) (fun c_10 => ?_) (fun c_10 => ?_)
  · skip
    refine g_lconst (v := 0) h dL_setRoom_17 (by decide) ?_
    refine g_lastO h dL_setRoom_18 ?_
    refine g_gen hV.setOU (fun y hV => ?_)
    refine g_goto h 34 dL_setRoom_19 (by decide) ?_
    refine g_iconst (v := nI 0) h dL_setRoom_34 (by decide) ?_
    exact g_iret h hr hk dL_setRoom_35 (by omega) (by omega) ⟨rfl, hV.cast (congrArg (vOU (s_X5_setRoom v i w b)) (if_pos c_10).symm)⟩
  · skip
    refine g_lconst (v := 1) h dL_setRoom_13 (by decide) ?_
    refine g_goto h 18 dL_setRoom_14 (by decide) ?_
    refine g_lastO h dL_setRoom_18 ?_
    refine g_gen hV.setOU (fun y hV => ?_)
    refine g_goto h 34 dL_setRoom_19 (by decide) ?_
    refine g_iconst (v := nI 0) h dL_setRoom_34 (by decide) ?_
    exact g_iret h hr hk dL_setRoom_35 (by omega) (by omega) ⟨rfl, hV.cast (congrArg (vOU (s_X5_setRoom v i w b)) (if_neg c_10).symm)⟩
set_option maxRecDepth 100000 in
set_option maxHeartbeats 400000 in
theorem w_read (l : Launch) (E : gE) (x : St) (hlt : l.stackTraces = false) (v : Vw) (hV : VW x v [] []) (i : Nat) (j : Nat) (hi : i < 4) (hj : j < 16) (hc : v.x.FC i 7 = nI (nat (v.x.FC i 7)) ∧ nat (v.x.FC i 7) ≤ 4) (hu : v.x.AC i 3 0 = nI (nat (v.x.AC i 3 0)) ∧ nat (v.x.AC i 3 0) < 16) (ha1 : v.x.FR i 0 = -1) (ha2 : v.x.AC i 2 j = -1) (ha3 : nI (r_X0_needsWayFor v i j) = 0 ∨ nI (r_X0_lacksVictimRoomFor v i (nat (v.x.AC i 3 0))) = 0) (hn : (v.q 16).length ≤ 62) : Ct l yL_read wsL_read { frames := 15, cells := 4, slots := 206, locals := 600 } E [.ref (aD E), .int (nI i), .int (nI j), .ref (aO E)] x (fun u y => u = some (.int (nI 0)) ∧ VW y (vOU (s_X5_read v i j) (r_X5_read v i j).toInt64) [] []) 4 206 := by
  refine CtW.of (cc := cL_read) (nL := 5) (ret := (some .int)) (hh := [(0, 10, 13, 13), (0, 10, 17, 17)]) (by decide) rfl (Nat.le_of_ble_eq_true rfl) ?_
  intro p e s m args below meth c h hr hk htab
  refine g_lvs (lv' := [(0, _), (1, _), (2, _), (3, _)]) rfl ?_
  refine g_aload_n h 3 dL_read_0 rfl rfl ?_
  refine g_iconst (v := nI 0) h dL_read_1 (by decide) ?_
  refine g_aload_n h 0 dL_read_2 rfl rfl ?_
  refine g_iload_n h 1 dL_read_3 rfl rfl ?_
  refine g_iload_n h 2 dL_read_4 rfl rfl ?_
  refine g_callV (As := [.int (nI i), .int (nI j)]) (C := RX5) h 2 (c_X5_read l E _ v [] hV i j hi hj hc hu ha1 ha2 ha3 hn) rfl gL_read_X5_read rfl rfl rfl rfl (by decide +kernel) ⟨Nat.le_of_ble_eq_true rfl, Nat.le_of_ble_eq_true rfl⟩ (wat_D E _) rfl rfl dL_read_5 ⟨by dsimp only; omega, by dsimp only; omega⟩ (Nat.le_of_ble_eq_true rfl) ?_
  rintro _ y ⟨rfl, hV⟩
  dsimp only [Option.toList, List.cons_append, List.nil_append]
  refine g_i2l h dL_read_8 ?_
  refine g_lastO h dL_read_9 ?_
  refine g_gen hV.setOU (fun y hV => ?_)
  refine g_goto h 21 dL_read_10 (by decide) ?_
  refine g_iconst (v := nI 0) h dL_read_21 (by decide) ?_
  exact g_iret h hr hk dL_read_22 (by omega) (by omega) ⟨rfl, hV⟩
set_option maxRecDepth 100000 in
set_option maxHeartbeats 400000 in
theorem w_write (l : Launch) (E : gE) (x : St) (hlt : l.stackTraces = false) (v : Vw) (hV : VW x v [] []) (i : Nat) (j : Nat) (w : Nat) (hi : i < 4) (hj : j < 16) (hw : w ≤ 9999) (hc : v.x.FC i 7 = nI (nat (v.x.FC i 7)) ∧ nat (v.x.FC i 7) ≤ 4) (hu : v.x.AC i 3 0 = nI (nat (v.x.AC i 3 0)) ∧ nat (v.x.AC i 3 0) < 16) (ha1 : v.x.FR i 0 = -1) (ha2 : v.x.AC i 2 j = -1) (ha3 : nI (r_X0_needsWayFor v i j) = 0 ∨ nI (r_X0_lacksVictimRoomFor v i (nat (v.x.AC i 3 0))) = 0) (hn : (v.q 16).length ≤ 62) : Ct l yL_write wsL_write { frames := 15, cells := 4, slots := 206, locals := 600 } E [.ref (aD E), .int (nI i), .int (nI j), .int (nI w), .ref (aO E)] x (fun u y => u = some (.int (nI 0)) ∧ VW y (vOU (s_X5_write v i j w) (if nI (r_X5_write v i j w) = 0 then 0 else 1)) [] []) 4 206 := by
  refine CtW.of (cc := cL_write) (nL := 6) (ret := (some .int)) (hh := [(0, 19, 22, 13), (0, 19, 26, 15), (0, 19, 30, 17)]) (by decide) rfl (Nat.le_of_ble_eq_true rfl) ?_
  intro p e s m args below meth c h hr hk htab
  refine g_lvs (lv' := [(0, _), (1, _), (2, _), (3, _), (4, _)]) rfl ?_
  refine g_aload h 4 dL_write_0 rfl ?_
  refine g_iconst (v := nI 0) h dL_write_2 (by decide) ?_
  refine g_aload_n h 0 dL_write_3 rfl rfl ?_
  refine g_iload_n h 1 dL_write_4 rfl rfl ?_
  refine g_iload_n h 2 dL_write_5 rfl rfl ?_
  refine g_iload_n h 3 dL_write_6 rfl rfl ?_
  refine g_callV (As := [.int (nI i), .int (nI j), .int (nI w)]) (C := RX5) h 3 (c_X5_write l E _ v [] hV i j w hi hj hw hc hu ha1 ha2 ha3 hn) rfl gL_write_X5_write rfl rfl rfl rfl (by decide +kernel) ⟨Nat.le_of_ble_eq_true rfl, Nat.le_of_ble_eq_true rfl⟩ (wat_D E _) rfl rfl dL_write_7 ⟨by dsimp only; omega, by dsimp only; omega⟩ (Nat.le_of_ble_eq_true rfl) ?_
  rintro _ y ⟨rfl, hV⟩
  dsimp only [Option.toList, List.cons_append, List.nil_append]
  refine g_if_eq h 17 dL_write_10 (by decide) (fun c_10 => ?_) (fun c_10 => ?_)
  · skip
    refine g_lconst (v := 0) h dL_write_17 (by decide) ?_
    refine g_lastO h dL_write_18 ?_
    refine g_gen hV.setOU (fun y hV => ?_)
    refine g_goto h 34 dL_write_19 (by decide) ?_
    refine g_iconst (v := nI 0) h dL_write_34 (by decide) ?_
    exact g_iret h hr hk dL_write_35 (by omega) (by omega) ⟨rfl, hV.cast (congrArg (vOU (s_X5_write v i j w)) (if_pos c_10).symm)⟩
  · skip
    refine g_lconst (v := 1) h dL_write_13 (by decide) ?_
    refine g_goto h 18 dL_write_14 (by decide) ?_
    refine g_lastO h dL_write_18 ?_
    refine g_gen hV.setOU (fun y hV => ?_)
    refine g_goto h 34 dL_write_19 (by decide) ?_
    refine g_iconst (v := nI 0) h dL_write_34 (by decide) ?_
    exact g_iret h hr hk dL_write_35 (by omega) (by omega) ⟨rfl, hV.cast (congrArg (vOU (s_X5_write v i j w)) (if_neg c_10).symm)⟩
set_option maxRecDepth 100000 in
set_option maxHeartbeats 400000 in
theorem w_evict (l : Launch) (E : gE) (x : St) (hlt : l.stackTraces = false) (v : Vw) (hV : VW x v [] []) (i : Nat) (j : Nat) (hi : i < 4) (hj : j < 16) (hc : v.x.FC i 7 = nI (nat (v.x.FC i 7)) ∧ nat (v.x.FC i 7) ≤ 4) (hh : ¬ nI (r_X0_holds v i j) = 0) (he1 : ¬ v.x.FR i 0 = nI j) (he2 : nI (r_X0_lacksVictimRoomFor v i j) = 0) (hn : (v.q 16).length ≤ 62) : Ct l yL_evict wsL_evict { frames := 15, cells := 2, slots := 103, locals := 600 } E [.ref (aD E), .int (nI i), .int (nI j), .ref (aO E)] x (fun u y => u = some (.int (nI 0)) ∧ VW y (vOU (s_X5_evict v i j) (r_X5_evict v i j).toInt64) [] []) 2 103 := by
  refine CtW.of (cc := cL_evict) (nL := 5) (ret := (some .int)) (hh := [(0, 10, 13, 13), (0, 10, 17, 29), (0, 10, 21, 17)]) (by decide) rfl (Nat.le_of_ble_eq_true rfl) ?_
  intro p e s m args below meth c h hr hk htab
  refine g_lvs (lv' := [(0, _), (1, _), (2, _), (3, _)]) rfl ?_
  refine g_aload_n h 3 dL_evict_0 rfl rfl ?_
  refine g_iconst (v := nI 0) h dL_evict_1 (by decide) ?_
  refine g_aload_n h 0 dL_evict_2 rfl rfl ?_
  refine g_iload_n h 1 dL_evict_3 rfl rfl ?_
  refine g_iload_n h 2 dL_evict_4 rfl rfl ?_
  refine g_callV (As := [.int (nI i), .int (nI j)]) (C := RX5) h 2 (c_X5_evict l E _ v [] hV i j hi hj hc hh he1 he2 hn) rfl gL_evict_X5_evict rfl rfl rfl rfl (by decide +kernel) ⟨Nat.le_of_ble_eq_true rfl, Nat.le_of_ble_eq_true rfl⟩ (wat_D E _) rfl rfl dL_evict_5 ⟨by dsimp only; omega, by dsimp only; omega⟩ (Nat.le_of_ble_eq_true rfl) ?_
  rintro _ y ⟨rfl, hV⟩
  dsimp only [Option.toList, List.cons_append, List.nil_append]
  refine g_i2l h dL_evict_8 ?_
  refine g_lastO h dL_evict_9 ?_
  refine g_gen hV.setOU (fun y hV => ?_)
  refine g_goto h 25 dL_evict_10 (by decide) ?_
  refine g_iconst (v := nI 0) h dL_evict_25 (by decide) ?_
  exact g_iret h hr hk dL_evict_26 (by omega) (by omega) ⟨rfl, hV⟩
set_option maxRecDepth 100000 in
set_option maxHeartbeats 400000 in
theorem w_state (l : Launch) (E : gE) (x : St) (hlt : l.stackTraces = false) (v : Vw) (hV : VW x v [] []) (i : Nat) (j : Nat) (hi : i < 4) (hj : j < 16) : Ct l yL_state wsL_state { frames := 15, cells := 0, slots := 0, locals := 600 } E [.ref (aD E), .int (nI i), .int (nI j), .ref (aO E)] x (fun u y => u = some (.int (nI 0)) ∧ VW y (vOU (v) (r_X5_state v i j).toInt64) [] []) 0 0 := by
  refine CtW.of (cc := cL_state) (nL := 5) (ret := (some .int)) (hh := [(0, 10, 13, 13)]) (by decide) rfl (Nat.le_of_ble_eq_true rfl) ?_
  intro p e s m args below meth c h hr hk htab
  refine g_lvs (lv' := [(0, _), (1, _), (2, _), (3, _)]) rfl ?_
  refine g_aload_n h 3 dL_state_0 rfl rfl ?_
  refine g_iconst (v := nI 0) h dL_state_1 (by decide) ?_
  refine g_aload_n h 0 dL_state_2 rfl rfl ?_
  refine g_iload_n h 1 dL_state_3 rfl rfl ?_
  refine g_iload_n h 2 dL_state_4 rfl rfl ?_
  refine g_callV (As := [.int (nI i), .int (nI j)]) (C := RX5) h 2 (c_X5_state l E _ v [] hV i j hi hj) rfl gL_state_X5_state rfl rfl rfl rfl (by decide +kernel) ⟨Nat.le_of_ble_eq_true rfl, Nat.le_of_ble_eq_true rfl⟩ (wat_D E _) rfl rfl dL_state_5 ⟨by dsimp only; omega, by dsimp only; omega⟩ (Nat.le_of_ble_eq_true rfl) ?_
  rintro _ _ ⟨rfl, hy⟩
  obtain rfl := hy.symm
  dsimp only [Option.toList, List.cons_append, List.nil_append]
  refine g_i2l h dL_state_8 ?_
  refine g_lastO h dL_state_9 ?_
  refine g_gen hV.setOU (fun y hV => ?_)
  refine g_goto h 17 dL_state_10 (by decide) ?_
  refine g_iconst (v := nI 0) h dL_state_17 (by decide) ?_
  exact g_iret h hr hk dL_state_18 (by omega) (by omega) ⟨rfl, hV⟩
set_option maxRecDepth 100000 in
set_option maxHeartbeats 400000 in
theorem w_value (l : Launch) (E : gE) (x : St) (hlt : l.stackTraces = false) (v : Vw) (hV : VW x v [] []) (i : Nat) (j : Nat) (hi : i < 4) (hj : j < 16) (hh : ¬ nI (r_X0_holds v i j) = 0) : Ct l yL_value wsL_value { frames := 15, cells := 0, slots := 0, locals := 600 } E [.ref (aD E), .int (nI i), .int (nI j), .ref (aO E)] x (fun u y => u = some (.int (nI 0)) ∧ VW y (vOU (v) (r_X5_value v i j).toInt64) [] []) 0 0 := by
  refine CtW.of (cc := cL_value) (nL := 5) (ret := (some .int)) (hh := [(0, 10, 13, 13), (0, 10, 17, 29)]) (by decide) rfl (Nat.le_of_ble_eq_true rfl) ?_
  intro p e s m args below meth c h hr hk htab
  refine g_lvs (lv' := [(0, _), (1, _), (2, _), (3, _)]) rfl ?_
  refine g_aload_n h 3 dL_value_0 rfl rfl ?_
  refine g_iconst (v := nI 0) h dL_value_1 (by decide) ?_
  refine g_aload_n h 0 dL_value_2 rfl rfl ?_
  refine g_iload_n h 1 dL_value_3 rfl rfl ?_
  refine g_iload_n h 2 dL_value_4 rfl rfl ?_
  refine g_callV (As := [.int (nI i), .int (nI j)]) (C := RX5) h 2 (c_X5_value l E _ v [] hV i j hi hj hh) rfl gL_value_X5_value rfl rfl rfl rfl (by decide +kernel) ⟨Nat.le_of_ble_eq_true rfl, Nat.le_of_ble_eq_true rfl⟩ (wat_D E _) rfl rfl dL_value_5 ⟨by dsimp only; omega, by dsimp only; omega⟩ (Nat.le_of_ble_eq_true rfl) ?_
  rintro _ _ ⟨rfl, hy⟩
  obtain rfl := hy.symm
  dsimp only [Option.toList, List.cons_append, List.nil_append]
  refine g_i2l h dL_value_8 ?_
  refine g_lastO h dL_value_9 ?_
  refine g_gen hV.setOU (fun y hV => ?_)
  refine g_goto h 21 dL_value_10 (by decide) ?_
  refine g_iconst (v := nI 0) h dL_value_21 (by decide) ?_
  exact g_iret h hr hk dL_value_22 (by omega) (by omega) ⟨rfl, hV⟩
set_option maxRecDepth 100000 in
set_option maxHeartbeats 400000 in
theorem w_victimValue (l : Launch) (E : gE) (x : St) (hlt : l.stackTraces = false) (v : Vw) (hV : VW x v [] []) (i : Nat) (j : Nat) (hi : i < 4) (hj : j < 16) : Ct l yL_victimValue wsL_victimValue { frames := 15, cells := 0, slots := 0, locals := 600 } E [.ref (aD E), .int (nI i), .int (nI j), .ref (aO E)] x (fun u y => u = some (.int (nI 0)) ∧ VW y (vOU (v) (r_X5_victimValue v i j).toInt64) [] []) 0 0 := by
  refine CtW.of (cc := cL_victimValue) (nL := 5) (ret := (some .int)) (hh := [(0, 10, 13, 13)]) (by decide) rfl (Nat.le_of_ble_eq_true rfl) ?_
  intro p e s m args below meth c h hr hk htab
  refine g_lvs (lv' := [(0, _), (1, _), (2, _), (3, _)]) rfl ?_
  refine g_aload_n h 3 dL_victimValue_0 rfl rfl ?_
  refine g_iconst (v := nI 0) h dL_victimValue_1 (by decide) ?_
  refine g_aload_n h 0 dL_victimValue_2 rfl rfl ?_
  refine g_iload_n h 1 dL_victimValue_3 rfl rfl ?_
  refine g_iload_n h 2 dL_victimValue_4 rfl rfl ?_
  refine g_callV (As := [.int (nI i), .int (nI j)]) (C := RX5) h 2 (c_X5_victimValue l E _ v [] hV i j hi hj) rfl gL_victimValue_X5_victimValue rfl rfl rfl rfl (by decide +kernel) ⟨Nat.le_of_ble_eq_true rfl, Nat.le_of_ble_eq_true rfl⟩ (wat_D E _) rfl rfl dL_victimValue_5 ⟨by dsimp only; omega, by dsimp only; omega⟩ (Nat.le_of_ble_eq_true rfl) ?_
  rintro _ _ ⟨rfl, hy⟩
  obtain rfl := hy.symm
  dsimp only [Option.toList, List.cons_append, List.nil_append]
  refine g_i2l h dL_victimValue_8 ?_
  refine g_lastO h dL_victimValue_9 ?_
  refine g_gen hV.setOU (fun y hV => ?_)
  refine g_goto h 17 dL_victimValue_10 (by decide) ?_
  refine g_iconst (v := nI 0) h dL_victimValue_17 (by decide) ?_
  exact g_iret h hr hk dL_victimValue_18 (by omega) (by omega) ⟨rfl, hV⟩
set_option maxRecDepth 100000 in
set_option maxHeartbeats 400000 in
theorem w_openLine (l : Launch) (E : gE) (x : St) (hlt : l.stackTraces = false) (v : Vw) (hV : VW x v [] []) (i : Nat) (hi : i < 4) : Ct l yL_openLine wsL_openLine { frames := 15, cells := 0, slots := 0, locals := 600 } E [.ref (aD E), .int (nI i), .ref (aO E)] x (fun u y => u = some (.int (nI 0)) ∧ VW y (vOU (v) (r_X5_openLine v i).toInt64) [] []) 0 0 := by
  refine CtW.of (cc := cL_openLine) (nL := 4) (ret := (some .int)) (hh := [(0, 9, 12, 13)]) (by decide) rfl (Nat.le_of_ble_eq_true rfl) ?_
  intro p e s m args below meth c h hr hk htab
  refine g_lvs (lv' := [(0, _), (1, _), (2, _)]) rfl ?_
  refine g_aload_n h 2 dL_openLine_0 rfl rfl ?_
  refine g_iconst (v := nI 0) h dL_openLine_1 (by decide) ?_
  refine g_aload_n h 0 dL_openLine_2 rfl rfl ?_
  refine g_iload_n h 1 dL_openLine_3 rfl rfl ?_
  refine g_callV (As := [.int (nI i)]) (C := RX5) h 1 (c_X5_openLine l E _ v [] hV i hi) rfl gL_openLine_X5_openLine rfl rfl rfl rfl (by decide +kernel) ⟨Nat.le_of_ble_eq_true rfl, Nat.le_of_ble_eq_true rfl⟩ (wat_D E _) rfl rfl dL_openLine_4 ⟨by dsimp only; omega, by dsimp only; omega⟩ (Nat.le_of_ble_eq_true rfl) ?_
  rintro _ _ ⟨rfl, hy⟩
  obtain rfl := hy.symm
  dsimp only [Option.toList, List.cons_append, List.nil_append]
  refine g_i2l h dL_openLine_7 ?_
  refine g_lastO h dL_openLine_8 ?_
  refine g_gen hV.setOU (fun y hV => ?_)
  refine g_goto h 15 dL_openLine_9 (by decide) ?_
  refine g_iconst (v := nI 0) h dL_openLine_15 (by decide) ?_
  exact g_iret h hr hk dL_openLine_16 (by omega) (by omega) ⟨rfl, hV⟩
set_option maxRecDepth 100000 in
set_option maxHeartbeats 400000 in
theorem w_latestRead (l : Launch) (E : gE) (x : St) (hlt : l.stackTraces = false) (v : Vw) (hV : VW x v [] []) (i : Nat) (hi : i < 4) : Ct l yL_latestRead wsL_latestRead { frames := 15, cells := 0, slots := 0, locals := 600 } E [.ref (aD E), .int (nI i), .ref (aO E)] x (fun u y => u = some (.int (nI 0)) ∧ VW y (vOU (v) (r_X5_latestRead v i).toInt64) [] []) 0 0 := by
  refine CtW.of (cc := cL_latestRead) (nL := 4) (ret := (some .int)) (hh := [(0, 9, 12, 13)]) (by decide) rfl (Nat.le_of_ble_eq_true rfl) ?_
  intro p e s m args below meth c h hr hk htab
  refine g_lvs (lv' := [(0, _), (1, _), (2, _)]) rfl ?_
  refine g_aload_n h 2 dL_latestRead_0 rfl rfl ?_
  refine g_iconst (v := nI 0) h dL_latestRead_1 (by decide) ?_
  refine g_aload_n h 0 dL_latestRead_2 rfl rfl ?_
  refine g_iload_n h 1 dL_latestRead_3 rfl rfl ?_
  refine g_callV (As := [.int (nI i)]) (C := RX5) h 1 (c_X5_latestRead l E _ v [] hV i hi) rfl gL_latestRead_X5_latestRead rfl rfl rfl rfl (by decide +kernel) ⟨Nat.le_of_ble_eq_true rfl, Nat.le_of_ble_eq_true rfl⟩ (wat_D E _) rfl rfl dL_latestRead_4 ⟨by dsimp only; omega, by dsimp only; omega⟩ (Nat.le_of_ble_eq_true rfl) ?_
  rintro _ _ ⟨rfl, hy⟩
  obtain rfl := hy.symm
  dsimp only [Option.toList, List.cons_append, List.nil_append]
  refine g_i2l h dL_latestRead_7 ?_
  refine g_lastO h dL_latestRead_8 ?_
  refine g_gen hV.setOU (fun y hV => ?_)
  refine g_goto h 15 dL_latestRead_9 (by decide) ?_
  refine g_iconst (v := nI 0) h dL_latestRead_15 (by decide) ?_
  exact g_iret h hr hk dL_latestRead_16 (by omega) (by omega) ⟨rfl, hV⟩
set_option maxRecDepth 100000 in
set_option maxHeartbeats 400000 in
theorem w_lineAt (l : Launch) (E : gE) (x : St) (hlt : l.stackTraces = false) (v : Vw) (hV : VW x v [] []) (i : Nat) (k : Nat) (hi : i < 4) (hk4 : k < 4) (hkc : nI k < v.x.FC i 7) : Ct l yL_lineAt wsL_lineAt { frames := 15, cells := 0, slots := 0, locals := 600 } E [.ref (aD E), .int (nI i), .int (nI k), .ref (aO E)] x (fun u y => u = some (.int (nI 0)) ∧ VW y (vOU (v) (r_X5_lineAt v i k).toInt64) [] []) 0 0 := by
  refine CtW.of (cc := cL_lineAt) (nL := 5) (ret := (some .int)) (hh := [(0, 10, 13, 13), (0, 10, 17, 29)]) (by decide) rfl (Nat.le_of_ble_eq_true rfl) ?_
  intro p e s m args below meth c h hr hk htab
  refine g_lvs (lv' := [(0, _), (1, _), (2, _), (3, _)]) rfl ?_
  refine g_aload_n h 3 dL_lineAt_0 rfl rfl ?_
  refine g_iconst (v := nI 0) h dL_lineAt_1 (by decide) ?_
  refine g_aload_n h 0 dL_lineAt_2 rfl rfl ?_
  refine g_iload_n h 1 dL_lineAt_3 rfl rfl ?_
  refine g_iload_n h 2 dL_lineAt_4 rfl rfl ?_
  refine g_callV (As := [.int (nI i), .int (nI k)]) (C := RX5) h 2 (c_X5_lineAt l E _ v [] hV i k hi hk4 hkc) rfl gL_lineAt_X5_lineAt rfl rfl rfl rfl (by decide +kernel) ⟨Nat.le_of_ble_eq_true rfl, Nat.le_of_ble_eq_true rfl⟩ (wat_D E _) rfl rfl dL_lineAt_5 ⟨by dsimp only; omega, by dsimp only; omega⟩ (Nat.le_of_ble_eq_true rfl) ?_
  rintro _ _ ⟨rfl, hy⟩
  obtain rfl := hy.symm
  dsimp only [Option.toList, List.cons_append, List.nil_append]
  refine g_i2l h dL_lineAt_8 ?_
  refine g_lastO h dL_lineAt_9 ?_
  refine g_gen hV.setOU (fun y hV => ?_)
  refine g_goto h 21 dL_lineAt_10 (by decide) ?_
  refine g_iconst (v := nI 0) h dL_lineAt_21 (by decide) ?_
  exact g_iret h hr hk dL_lineAt_22 (by omega) (by omega) ⟨rfl, hV⟩
set_option maxRecDepth 100000 in
set_option maxHeartbeats 400000 in
theorem w_owner (l : Launch) (E : gE) (x : St) (hlt : l.stackTraces = false) (v : Vw) (hV : VW x v [] []) (j : Nat) (hj : j < 16) : Ct l yL_owner wsL_owner { frames := 15, cells := 0, slots := 0, locals := 600 } E [.ref (aD E), .int (nI j), .ref (aO E)] x (fun u y => u = some (.int (nI 0)) ∧ VW y (vOU (v) (r_X5_owner v j).toInt64) [] []) 0 0 := by
  refine CtW.of (cc := cL_owner) (nL := 4) (ret := (some .int)) (hh := [(0, 9, 12, 13)]) (by decide) rfl (Nat.le_of_ble_eq_true rfl) ?_
  intro p e s m args below meth c h hr hk htab
  refine g_lvs (lv' := [(0, _), (1, _), (2, _)]) rfl ?_
  refine g_aload_n h 2 dL_owner_0 rfl rfl ?_
  refine g_iconst (v := nI 0) h dL_owner_1 (by decide) ?_
  refine g_aload_n h 0 dL_owner_2 rfl rfl ?_
  refine g_iload_n h 1 dL_owner_3 rfl rfl ?_
  refine g_callV (As := [.int (nI j)]) (C := RX5) h 1 (c_X5_owner l E _ v [] hV j hj) rfl gL_owner_X5_owner rfl rfl rfl rfl (by decide +kernel) ⟨Nat.le_of_ble_eq_true rfl, Nat.le_of_ble_eq_true rfl⟩ (wat_D E _) rfl rfl dL_owner_4 ⟨by dsimp only; omega, by dsimp only; omega⟩ (Nat.le_of_ble_eq_true rfl) ?_
  rintro _ _ ⟨rfl, hy⟩
  obtain rfl := hy.symm
  dsimp only [Option.toList, List.cons_append, List.nil_append]
  refine g_i2l h dL_owner_7 ?_
  refine g_lastO h dL_owner_8 ?_
  refine g_gen hV.setOU (fun y hV => ?_)
  refine g_goto h 15 dL_owner_9 (by decide) ?_
  refine g_iconst (v := nI 0) h dL_owner_15 (by decide) ?_
  exact g_iret h hr hk dL_owner_16 (by omega) (by omega) ⟨rfl, hV⟩
set_option maxRecDepth 100000 in
set_option maxHeartbeats 400000 in
theorem w_sharers (l : Launch) (E : gE) (x : St) (hlt : l.stackTraces = false) (v : Vw) (hV : VW x v [] []) (j : Nat) (hj : j < 16) : Ct l yL_sharers wsL_sharers { frames := 15, cells := 0, slots := 0, locals := 600 } E [.ref (aD E), .int (nI j), .ref (aO E)] x (fun u y => u = some (.int (nI 0)) ∧ VW y (vOU (v) (r_X5_sharers v j).toInt64) [] []) 0 0 := by
  refine CtW.of (cc := cL_sharers) (nL := 4) (ret := (some .int)) (hh := [(0, 9, 12, 13)]) (by decide) rfl (Nat.le_of_ble_eq_true rfl) ?_
  intro p e s m args below meth c h hr hk htab
  refine g_lvs (lv' := [(0, _), (1, _), (2, _)]) rfl ?_
  refine g_aload_n h 2 dL_sharers_0 rfl rfl ?_
  refine g_iconst (v := nI 0) h dL_sharers_1 (by decide) ?_
  refine g_aload_n h 0 dL_sharers_2 rfl rfl ?_
  refine g_iload_n h 1 dL_sharers_3 rfl rfl ?_
  refine g_callV (As := [.int (nI j)]) (C := RX5) h 1 (c_X5_sharers l E _ v [] hV j hj) rfl gL_sharers_X5_sharers rfl rfl rfl rfl (by decide +kernel) ⟨Nat.le_of_ble_eq_true rfl, Nat.le_of_ble_eq_true rfl⟩ (wat_D E _) rfl rfl dL_sharers_4 ⟨by dsimp only; omega, by dsimp only; omega⟩ (Nat.le_of_ble_eq_true rfl) ?_
  rintro _ _ ⟨rfl, hy⟩
  obtain rfl := hy.symm
  dsimp only [Option.toList, List.cons_append, List.nil_append]
  refine g_i2l h dL_sharers_7 ?_
  refine g_lastO h dL_sharers_8 ?_
  refine g_gen hV.setOU (fun y hV => ?_)
  refine g_goto h 15 dL_sharers_9 (by decide) ?_
  refine g_iconst (v := nI 0) h dL_sharers_15 (by decide) ?_
  exact g_iret h hr hk dL_sharers_16 (by omega) (by omega) ⟨rfl, hV⟩
set_option maxRecDepth 100000 in
set_option maxHeartbeats 400000 in
theorem w_isBusy (l : Launch) (E : gE) (x : St) (hlt : l.stackTraces = false) (v : Vw) (hV : VW x v [] []) (j : Nat) (hj : j < 16) (hb : v.x.FH j 6 = 0 ∨ v.x.FH j 6 = 1) : Ct l yL_isBusy wsL_isBusy { frames := 15, cells := 0, slots := 0, locals := 600 } E [.ref (aD E), .int (nI j), .ref (aO E)] x (fun u y => u = some (.int (nI 0)) ∧ VW y (vOU (v) (if r_X5_isBusy v j = 0 then 0 else 1)) [] []) 0 0 := by
  refine CtW.of (cc := cL_isBusy) (nL := 4) (ret := (some .int)) (hh := [(0, 16, 19, 13)]) (by decide) rfl (Nat.le_of_ble_eq_true rfl) ?_
  intro p e s m args below meth c h hr hk htab
  refine g_lvs (lv' := [(0, _), (1, _), (2, _)]) rfl ?_
  refine g_aload_n h 2 dL_isBusy_0 rfl rfl ?_
  refine g_iconst (v := nI 0) h dL_isBusy_1 (by decide) ?_
  refine g_aload_n h 0 dL_isBusy_2 rfl rfl ?_
  refine g_iload_n h 1 dL_isBusy_3 rfl rfl ?_
  refine g_callV (As := [.int (nI j)]) (C := RX5) h 1 (c_X5_isBusy l E _ v [] hV j hj hb) rfl gL_isBusy_X5_isBusy rfl rfl rfl rfl (by decide +kernel) ⟨Nat.le_of_ble_eq_true rfl, Nat.le_of_ble_eq_true rfl⟩ (wat_D E _) rfl rfl dL_isBusy_4 ⟨by dsimp only; omega, by dsimp only; omega⟩ (Nat.le_of_ble_eq_true rfl) ?_
  rintro _ _ ⟨rfl, hy⟩
  obtain rfl := hy.symm
  dsimp only [Option.toList, List.cons_append, List.nil_append]
  refine g_if_eq h 14 dL_isBusy_7 (by decide) (fun c_7 => ?_) (fun c_7 => ?_)
  · skip
    refine g_lconst (v := 0) h dL_isBusy_14 (by decide) ?_
    refine g_lastO h dL_isBusy_15 ?_
    refine g_gen hV.setOU (fun y hV => ?_)
    refine g_goto h 22 dL_isBusy_16 (by decide) ?_
    refine g_iconst (v := nI 0) h dL_isBusy_22 (by decide) ?_
    exact g_iret h hr hk dL_isBusy_23 (by omega) (by omega) ⟨rfl, hV.cast (congrArg (vOU (v)) (if_pos c_7).symm)⟩
  · skip
    refine g_lconst (v := 1) h dL_isBusy_10 (by decide) ?_
    refine g_goto h 15 dL_isBusy_11 (by decide) ?_
    refine g_lastO h dL_isBusy_15 ?_
    refine g_gen hV.setOU (fun y hV => ?_)
    refine g_goto h 22 dL_isBusy_16 (by decide) ?_
    refine g_iconst (v := nI 0) h dL_isBusy_22 (by decide) ?_
    exact g_iret h hr hk dL_isBusy_23 (by omega) (by omega) ⟨rfl, hV.cast (congrArg (vOU (v)) (if_neg c_7).symm)⟩
set_option maxRecDepth 100000 in
set_option maxHeartbeats 400000 in
theorem w_queued (l : Launch) (E : gE) (x : St) (hlt : l.stackTraces = false) (v : Vw) (hV : VW x v [] []) (j : Nat) (hj : j < 16) : Ct l yL_queued wsL_queued { frames := 15, cells := 0, slots := 0, locals := 600 } E [.ref (aD E), .int (nI j), .ref (aO E)] x (fun u y => u = some (.int (nI 0)) ∧ VW y (vOU (v) (nI (r_X5_queued v j)).toInt64) [] []) 0 0 := by
  refine CtW.of (cc := cL_queued) (nL := 4) (ret := (some .int)) (hh := [(0, 9, 12, 13)]) (by decide) rfl (Nat.le_of_ble_eq_true rfl) ?_
  intro p e s m args below meth c h hr hk htab
  refine g_lvs (lv' := [(0, _), (1, _), (2, _)]) rfl ?_
  refine g_aload_n h 2 dL_queued_0 rfl rfl ?_
  refine g_iconst (v := nI 0) h dL_queued_1 (by decide) ?_
  refine g_aload_n h 0 dL_queued_2 rfl rfl ?_
  refine g_iload_n h 1 dL_queued_3 rfl rfl ?_
  refine g_callV (As := [.int (nI j)]) (C := RX5) h 1 (c_X5_queued l E _ v [] hV j hj) rfl gL_queued_X5_queued rfl rfl rfl rfl (by decide +kernel) ⟨Nat.le_of_ble_eq_true rfl, Nat.le_of_ble_eq_true rfl⟩ (wat_D E _) rfl rfl dL_queued_4 ⟨by dsimp only; omega, by dsimp only; omega⟩ (Nat.le_of_ble_eq_true rfl) ?_
  rintro _ _ ⟨rfl, hy⟩
  obtain rfl := hy.symm
  dsimp only [Option.toList, List.cons_append, List.nil_append]
  refine g_i2l h dL_queued_7 ?_
  refine g_lastO h dL_queued_8 ?_
  refine g_gen hV.setOU (fun y hV => ?_)
  refine g_goto h 15 dL_queued_9 (by decide) ?_
  refine g_iconst (v := nI 0) h dL_queued_15 (by decide) ?_
  exact g_iret h hr hk dL_queued_16 (by omega) (by omega) ⟨rfl, hV⟩
set_option maxRecDepth 100000 in
set_option maxHeartbeats 400000 in
theorem w_memory (l : Launch) (E : gE) (x : St) (hlt : l.stackTraces = false) (v : Vw) (hV : VW x v [] []) (j : Nat) (hj : j < 16) : Ct l yL_memory wsL_memory { frames := 15, cells := 0, slots := 0, locals := 600 } E [.ref (aD E), .int (nI j), .ref (aO E)] x (fun u y => u = some (.int (nI 0)) ∧ VW y (vOU (v) (r_X5_memory v j).toInt64) [] []) 0 0 := by
  refine CtW.of (cc := cL_memory) (nL := 4) (ret := (some .int)) (hh := [(0, 9, 12, 13)]) (by decide) rfl (Nat.le_of_ble_eq_true rfl) ?_
  intro p e s m args below meth c h hr hk htab
  refine g_lvs (lv' := [(0, _), (1, _), (2, _)]) rfl ?_
  refine g_aload_n h 2 dL_memory_0 rfl rfl ?_
  refine g_iconst (v := nI 0) h dL_memory_1 (by decide) ?_
  refine g_aload_n h 0 dL_memory_2 rfl rfl ?_
  refine g_iload_n h 1 dL_memory_3 rfl rfl ?_
  refine g_callV (As := [.int (nI j)]) (C := RX5) h 1 (c_X5_memory l E _ v [] hV j hj) rfl gL_memory_X5_memory rfl rfl rfl rfl (by decide +kernel) ⟨Nat.le_of_ble_eq_true rfl, Nat.le_of_ble_eq_true rfl⟩ (wat_D E _) rfl rfl dL_memory_4 ⟨by dsimp only; omega, by dsimp only; omega⟩ (Nat.le_of_ble_eq_true rfl) ?_
  rintro _ _ ⟨rfl, hy⟩
  obtain rfl := hy.symm
  dsimp only [Option.toList, List.cons_append, List.nil_append]
  refine g_i2l h dL_memory_7 ?_
  refine g_lastO h dL_memory_8 ?_
  refine g_gen hV.setOU (fun y hV => ?_)
  refine g_goto h 15 dL_memory_9 (by decide) ?_
  refine g_iconst (v := nI 0) h dL_memory_15 (by decide) ?_
  exact g_iret h hr hk dL_memory_16 (by omega) (by omega) ⟨rfl, hV⟩
set_option maxRecDepth 100000 in
set_option maxHeartbeats 400000 in
theorem w_messageKind (l : Launch) (E : gE) (x : St) (hlt : l.stackTraces = false) (v : Vw) (hV : VW x v [] []) (k : Nat) (hkl : k < (v.q 16).length) : Ct l yL_messageKind wsL_messageKind { frames := 15, cells := 0, slots := 0, locals := 600 } E [.ref (aD E), .int (nI k), .ref (aO E)] x (fun u y => u = some (.int (nI 0)) ∧ VW y (vOU (v) (r_X5_messageKind v k).toInt64) [] []) 0 0 := by
  refine CtW.of (cc := cL_messageKind) (nL := 4) (ret := (some .int)) (hh := [(0, 9, 12, 13)]) (by decide) rfl (Nat.le_of_ble_eq_true rfl) ?_
  intro p e s m args below meth c h hr hk htab
  refine g_lvs (lv' := [(0, _), (1, _), (2, _)]) rfl ?_
  refine g_aload_n h 2 dL_messageKind_0 rfl rfl ?_
  refine g_iconst (v := nI 0) h dL_messageKind_1 (by decide) ?_
  refine g_aload_n h 0 dL_messageKind_2 rfl rfl ?_
  refine g_iload_n h 1 dL_messageKind_3 rfl rfl ?_
  refine g_callV (As := [.int (nI k)]) (C := RX5) h 1 (c_X5_messageKind l E _ v [] hV k hkl) rfl gL_messageKind_X5_messageKind rfl rfl rfl rfl (by decide +kernel) ⟨Nat.le_of_ble_eq_true rfl, Nat.le_of_ble_eq_true rfl⟩ (wat_D E _) rfl rfl dL_messageKind_4 ⟨by dsimp only; omega, by dsimp only; omega⟩ (Nat.le_of_ble_eq_true rfl) ?_
  rintro _ _ ⟨rfl, hy⟩
  obtain rfl := hy.symm
  dsimp only [Option.toList, List.cons_append, List.nil_append]
  refine g_i2l h dL_messageKind_7 ?_
  refine g_lastO h dL_messageKind_8 ?_
  refine g_gen hV.setOU (fun y hV => ?_)
  refine g_goto h 15 dL_messageKind_9 (by decide) ?_
  refine g_iconst (v := nI 0) h dL_messageKind_15 (by decide) ?_
  exact g_iret h hr hk dL_messageKind_16 (by omega) (by omega) ⟨rfl, hV⟩
set_option maxRecDepth 100000 in
set_option maxHeartbeats 400000 in
theorem w_messageLine (l : Launch) (E : gE) (x : St) (hlt : l.stackTraces = false) (v : Vw) (hV : VW x v [] []) (k : Nat) (hkl : k < (v.q 16).length) : Ct l yL_messageLine wsL_messageLine { frames := 15, cells := 0, slots := 0, locals := 600 } E [.ref (aD E), .int (nI k), .ref (aO E)] x (fun u y => u = some (.int (nI 0)) ∧ VW y (vOU (v) (r_X5_messageLine v k).toInt64) [] []) 0 0 := by
  refine CtW.of (cc := cL_messageLine) (nL := 4) (ret := (some .int)) (hh := [(0, 9, 12, 13)]) (by decide) rfl (Nat.le_of_ble_eq_true rfl) ?_
  intro p e s m args below meth c h hr hk htab
  refine g_lvs (lv' := [(0, _), (1, _), (2, _)]) rfl ?_
  refine g_aload_n h 2 dL_messageLine_0 rfl rfl ?_
  refine g_iconst (v := nI 0) h dL_messageLine_1 (by decide) ?_
  refine g_aload_n h 0 dL_messageLine_2 rfl rfl ?_
  refine g_iload_n h 1 dL_messageLine_3 rfl rfl ?_
  refine g_callV (As := [.int (nI k)]) (C := RX5) h 1 (c_X5_messageLine l E _ v [] hV k hkl) rfl gL_messageLine_X5_messageLine rfl rfl rfl rfl (by decide +kernel) ⟨Nat.le_of_ble_eq_true rfl, Nat.le_of_ble_eq_true rfl⟩ (wat_D E _) rfl rfl dL_messageLine_4 ⟨by dsimp only; omega, by dsimp only; omega⟩ (Nat.le_of_ble_eq_true rfl) ?_
  rintro _ _ ⟨rfl, hy⟩
  obtain rfl := hy.symm
  dsimp only [Option.toList, List.cons_append, List.nil_append]
  refine g_i2l h dL_messageLine_7 ?_
  refine g_lastO h dL_messageLine_8 ?_
  refine g_gen hV.setOU (fun y hV => ?_)
  refine g_goto h 15 dL_messageLine_9 (by decide) ?_
  refine g_iconst (v := nI 0) h dL_messageLine_15 (by decide) ?_
  exact g_iret h hr hk dL_messageLine_16 (by omega) (by omega) ⟨rfl, hV⟩
set_option maxRecDepth 100000 in
set_option maxHeartbeats 400000 in
theorem w_messageFrom (l : Launch) (E : gE) (x : St) (hlt : l.stackTraces = false) (v : Vw) (hV : VW x v [] []) (k : Nat) (hkl : k < (v.q 16).length) : Ct l yL_messageFrom wsL_messageFrom { frames := 15, cells := 0, slots := 0, locals := 600 } E [.ref (aD E), .int (nI k), .ref (aO E)] x (fun u y => u = some (.int (nI 0)) ∧ VW y (vOU (v) (r_X5_messageFrom v k).toInt64) [] []) 0 0 := by
  refine CtW.of (cc := cL_messageFrom) (nL := 4) (ret := (some .int)) (hh := [(0, 9, 12, 13)]) (by decide) rfl (Nat.le_of_ble_eq_true rfl) ?_
  intro p e s m args below meth c h hr hk htab
  refine g_lvs (lv' := [(0, _), (1, _), (2, _)]) rfl ?_
  refine g_aload_n h 2 dL_messageFrom_0 rfl rfl ?_
  refine g_iconst (v := nI 0) h dL_messageFrom_1 (by decide) ?_
  refine g_aload_n h 0 dL_messageFrom_2 rfl rfl ?_
  refine g_iload_n h 1 dL_messageFrom_3 rfl rfl ?_
  refine g_callV (As := [.int (nI k)]) (C := RX5) h 1 (c_X5_messageFrom l E _ v [] hV k hkl) rfl gL_messageFrom_X5_messageFrom rfl rfl rfl rfl (by decide +kernel) ⟨Nat.le_of_ble_eq_true rfl, Nat.le_of_ble_eq_true rfl⟩ (wat_D E _) rfl rfl dL_messageFrom_4 ⟨by dsimp only; omega, by dsimp only; omega⟩ (Nat.le_of_ble_eq_true rfl) ?_
  rintro _ _ ⟨rfl, hy⟩
  obtain rfl := hy.symm
  dsimp only [Option.toList, List.cons_append, List.nil_append]
  refine g_i2l h dL_messageFrom_7 ?_
  refine g_lastO h dL_messageFrom_8 ?_
  refine g_gen hV.setOU (fun y hV => ?_)
  refine g_goto h 15 dL_messageFrom_9 (by decide) ?_
  refine g_iconst (v := nI 0) h dL_messageFrom_15 (by decide) ?_
  exact g_iret h hr hk dL_messageFrom_16 (by omega) (by omega) ⟨rfl, hV⟩
set_option maxRecDepth 100000 in
set_option maxHeartbeats 400000 in
theorem w_messageTo (l : Launch) (E : gE) (x : St) (hlt : l.stackTraces = false) (v : Vw) (hV : VW x v [] []) (k : Nat) (hkl : k < (v.q 16).length) : Ct l yL_messageTo wsL_messageTo { frames := 15, cells := 0, slots := 0, locals := 600 } E [.ref (aD E), .int (nI k), .ref (aO E)] x (fun u y => u = some (.int (nI 0)) ∧ VW y (vOU (v) (r_X5_messageTo v k).toInt64) [] []) 0 0 := by
  refine CtW.of (cc := cL_messageTo) (nL := 4) (ret := (some .int)) (hh := [(0, 9, 12, 13)]) (by decide) rfl (Nat.le_of_ble_eq_true rfl) ?_
  intro p e s m args below meth c h hr hk htab
  refine g_lvs (lv' := [(0, _), (1, _), (2, _)]) rfl ?_
  refine g_aload_n h 2 dL_messageTo_0 rfl rfl ?_
  refine g_iconst (v := nI 0) h dL_messageTo_1 (by decide) ?_
  refine g_aload_n h 0 dL_messageTo_2 rfl rfl ?_
  refine g_iload_n h 1 dL_messageTo_3 rfl rfl ?_
  refine g_callV (As := [.int (nI k)]) (C := RX5) h 1 (c_X5_messageTo l E _ v [] hV k hkl) rfl gL_messageTo_X5_messageTo rfl rfl rfl rfl (by decide +kernel) ⟨Nat.le_of_ble_eq_true rfl, Nat.le_of_ble_eq_true rfl⟩ (wat_D E _) rfl rfl dL_messageTo_4 ⟨by dsimp only; omega, by dsimp only; omega⟩ (Nat.le_of_ble_eq_true rfl) ?_
  rintro _ _ ⟨rfl, hy⟩
  obtain rfl := hy.symm
  dsimp only [Option.toList, List.cons_append, List.nil_append]
  refine g_i2l h dL_messageTo_7 ?_
  refine g_lastO h dL_messageTo_8 ?_
  refine g_gen hV.setOU (fun y hV => ?_)
  refine g_goto h 15 dL_messageTo_9 (by decide) ?_
  refine g_iconst (v := nI 0) h dL_messageTo_15 (by decide) ?_
  exact g_iret h hr hk dL_messageTo_16 (by omega) (by omega) ⟨rfl, hV⟩
set_option maxRecDepth 100000 in
set_option maxHeartbeats 400000 in
theorem w_hits (l : Launch) (E : gE) (x : St) (hlt : l.stackTraces = false) (v : Vw) (hV : VW x v [] []) (i : Nat) (hi : i < 4) : Ct l yL_hits wsL_hits { frames := 15, cells := 0, slots := 0, locals := 600 } E [.ref (aD E), .int (nI i), .ref (aO E)] x (fun u y => u = some (.int (nI 0)) ∧ VW y (vOU (v) (r_X5_hits v i).toInt64) [] []) 0 0 := by
  refine CtW.of (cc := cL_hits) (nL := 4) (ret := (some .int)) (hh := [(0, 9, 12, 13)]) (by decide) rfl (Nat.le_of_ble_eq_true rfl) ?_
  intro p e s m args below meth c h hr hk htab
  refine g_lvs (lv' := [(0, _), (1, _), (2, _)]) rfl ?_
  refine g_aload_n h 2 dL_hits_0 rfl rfl ?_
  refine g_iconst (v := nI 0) h dL_hits_1 (by decide) ?_
  refine g_aload_n h 0 dL_hits_2 rfl rfl ?_
  refine g_iload_n h 1 dL_hits_3 rfl rfl ?_
  refine g_callV (As := [.int (nI i)]) (C := RX5) h 1 (c_X5_hits l E _ v [] hV i hi) rfl gL_hits_X5_hits rfl rfl rfl rfl (by decide +kernel) ⟨Nat.le_of_ble_eq_true rfl, Nat.le_of_ble_eq_true rfl⟩ (wat_D E _) rfl rfl dL_hits_4 ⟨by dsimp only; omega, by dsimp only; omega⟩ (Nat.le_of_ble_eq_true rfl) ?_
  rintro _ _ ⟨rfl, hy⟩
  obtain rfl := hy.symm
  dsimp only [Option.toList, List.cons_append, List.nil_append]
  refine g_i2l h dL_hits_7 ?_
  refine g_lastO h dL_hits_8 ?_
  refine g_gen hV.setOU (fun y hV => ?_)
  refine g_goto h 15 dL_hits_9 (by decide) ?_
  refine g_iconst (v := nI 0) h dL_hits_15 (by decide) ?_
  exact g_iret h hr hk dL_hits_16 (by omega) (by omega) ⟨rfl, hV⟩
set_option maxRecDepth 100000 in
set_option maxHeartbeats 400000 in
theorem w_misses (l : Launch) (E : gE) (x : St) (hlt : l.stackTraces = false) (v : Vw) (hV : VW x v [] []) (i : Nat) (hi : i < 4) : Ct l yL_misses wsL_misses { frames := 15, cells := 0, slots := 0, locals := 600 } E [.ref (aD E), .int (nI i), .ref (aO E)] x (fun u y => u = some (.int (nI 0)) ∧ VW y (vOU (v) (r_X5_misses v i).toInt64) [] []) 0 0 := by
  refine CtW.of (cc := cL_misses) (nL := 4) (ret := (some .int)) (hh := [(0, 9, 12, 13)]) (by decide) rfl (Nat.le_of_ble_eq_true rfl) ?_
  intro p e s m args below meth c h hr hk htab
  refine g_lvs (lv' := [(0, _), (1, _), (2, _)]) rfl ?_
  refine g_aload_n h 2 dL_misses_0 rfl rfl ?_
  refine g_iconst (v := nI 0) h dL_misses_1 (by decide) ?_
  refine g_aload_n h 0 dL_misses_2 rfl rfl ?_
  refine g_iload_n h 1 dL_misses_3 rfl rfl ?_
  refine g_callV (As := [.int (nI i)]) (C := RX5) h 1 (c_X5_misses l E _ v [] hV i hi) rfl gL_misses_X5_misses rfl rfl rfl rfl (by decide +kernel) ⟨Nat.le_of_ble_eq_true rfl, Nat.le_of_ble_eq_true rfl⟩ (wat_D E _) rfl rfl dL_misses_4 ⟨by dsimp only; omega, by dsimp only; omega⟩ (Nat.le_of_ble_eq_true rfl) ?_
  rintro _ _ ⟨rfl, hy⟩
  obtain rfl := hy.symm
  dsimp only [Option.toList, List.cons_append, List.nil_append]
  refine g_i2l h dL_misses_7 ?_
  refine g_lastO h dL_misses_8 ?_
  refine g_gen hV.setOU (fun y hV => ?_)
  refine g_goto h 15 dL_misses_9 (by decide) ?_
  refine g_iconst (v := nI 0) h dL_misses_15 (by decide) ?_
  exact g_iret h hr hk dL_misses_16 (by omega) (by omega) ⟨rfl, hV⟩
set_option maxRecDepth 100000 in
set_option maxHeartbeats 400000 in
theorem w_isInOrder (l : Launch) (E : gE) (x : St) (hlt : l.stackTraces = false) (v : Vw) (hV : VW x v [] []) (j : Nat) (hj : j < 16) : Ct l yL_isInOrder wsL_isInOrder { frames := 15, cells := 0, slots := 0, locals := 600 } E [.ref (aD E), .int (nI j), .ref (aO E)] x (fun u y => u = some (.int (nI 0)) ∧ VW y (vOU (v) (if nI (r_X5_isInOrder x j) = 0 then 0 else 1)) [] []) 0 0 := by
  refine CtW.of (cc := cL_isInOrder) (nL := 4) (ret := (some .int)) (hh := [(0, 16, 19, 13)]) (by decide) rfl (Nat.le_of_ble_eq_true rfl) ?_
  intro p e s m args below meth c h hr hk htab
  refine g_lvs (lv' := [(0, _), (1, _), (2, _)]) rfl ?_
  refine g_aload_n h 2 dL_isInOrder_0 rfl rfl ?_
  refine g_iconst (v := nI 0) h dL_isInOrder_1 (by decide) ?_
  refine g_aload_n h 0 dL_isInOrder_2 rfl rfl ?_
  refine g_iload_n h 1 dL_isInOrder_3 rfl rfl ?_
  refine g_callV (As := [.int (nI j)]) (C := RX5) h 1 (c_X5_isInOrder l E _ j hj) rfl gL_isInOrder_X5_isInOrder rfl rfl rfl rfl (by decide +kernel) ⟨Nat.le_of_ble_eq_true rfl, Nat.le_of_ble_eq_true rfl⟩ (wat_D E _) rfl rfl dL_isInOrder_4 ⟨by dsimp only; omega, by dsimp only; omega⟩ (Nat.le_of_ble_eq_true rfl) ?_
  rintro _ _ ⟨rfl, hy⟩
  obtain rfl := hy.symm
  dsimp only [Option.toList, List.cons_append, List.nil_append]
  refine g_if_eq h 14 dL_isInOrder_7 (by decide) (fun c_7 => ?_) (fun c_7 => ?_)
  · skip
    refine g_lconst (v := 0) h dL_isInOrder_14 (by decide) ?_
    refine g_lastO h dL_isInOrder_15 ?_
    refine g_gen hV.setOU (fun y hV => ?_)
    refine g_goto h 22 dL_isInOrder_16 (by decide) ?_
    refine g_iconst (v := nI 0) h dL_isInOrder_22 (by decide) ?_
    exact g_iret h hr hk dL_isInOrder_23 (by omega) (by omega) ⟨rfl, hV.cast (congrArg (vOU (v)) (if_pos c_7).symm)⟩
  · skip
    refine g_lconst (v := 1) h dL_isInOrder_10 (by decide) ?_
    refine g_goto h 15 dL_isInOrder_11 (by decide) ?_
    refine g_lastO h dL_isInOrder_15 ?_
    refine g_gen hV.setOU (fun y hV => ?_)
    refine g_goto h 22 dL_isInOrder_16 (by decide) ?_
    refine g_iconst (v := nI 0) h dL_isInOrder_22 (by decide) ?_
    exact g_iret h hr hk dL_isInOrder_23 (by omega) (by omega) ⟨rfl, hV.cast (congrArg (vOU (v)) (if_neg c_7).symm)⟩
set_option maxRecDepth 100000 in
set_option maxHeartbeats 400000 in
theorem w_deliver (l : Launch) (E : gE) (x : St) (hlt : l.stackTraces = false) (v : Vw) (hV : VW x v [] [])  (k : Nat) (hkl : k < (v.q 16).length) (hC : CI v) : Ct l yL_deliver wsL_deliver { frames := 15, cells := 2 * uH v k, slots := 103 * uH v k, locals := 600 } E [.ref (aD E), .int (nI k), .ref (aO E)] x (fun u y => u = some (.int (nI 0)) ∧ VW y (vOU (s_handOver v k) (nI (((s_handOver v k).q 16).length)).toInt64) [] []) (2 * uH v k) (103 * uH v k) := by
  refine CtW.of (cc := cL_deliver) (nL := 4) (ret := (some .int)) (hh := [(0, 9, 12, 13)]) (by decide) rfl (Nat.le_of_ble_eq_true rfl) ?_
  intro p e s m args below meth c h hr hk htab
  refine g_lvs (lv' := [(0, _), (1, _), (2, _)]) rfl ?_
  refine g_aload_n h 2 dL_deliver_0 rfl rfl ?_
  refine g_iconst (v := nI 0) h dL_deliver_1 (by decide) ?_
  refine g_aload_n h 0 dL_deliver_2 rfl rfl ?_
  refine g_iload_n h 1 dL_deliver_3 rfl rfl ?_
  refine g_callV (As := [.int (nI k)]) (C := RX5) h 1 (c_X5_deliver l E _ v hV k hkl hC) rfl gL_deliver_X5_deliver rfl rfl rfl rfl (by decide +kernel) ⟨Nat.le_of_ble_eq_true rfl, Nat.le_of_ble_eq_true rfl⟩ (wat_D E _) rfl rfl dL_deliver_4 ⟨by dsimp only; omega, by dsimp only; omega⟩ (Nat.le_of_ble_eq_true rfl) ?_
  rintro _ y ⟨rfl, hV⟩
  dsimp only [Option.toList, List.cons_append, List.nil_append]
  refine g_i2l h dL_deliver_7 ?_
  refine g_lastO h dL_deliver_8 ?_
  refine g_gen hV.setOU (fun y hV => ?_)
  refine g_goto h 15 dL_deliver_9 (by decide) ?_
  refine g_iconst (v := nI 0) h dL_deliver_15 (by decide) ?_
  exact g_iret h hr hk dL_deliver_16 (by omega) (by omega) ⟨rfl, hV⟩
set_option maxRecDepth 100000 in
set_option maxHeartbeats 400000 in
theorem w_settle (l : Launch) (E : gE) (x : St) (hlt : l.stackTraces = false) (v : Vw) (hV : VW x v [] [])  (n : Nat) (hn : n ≤ 1000) (hI : ∀ t, t ≤ n → CI (sN t v)) : Ct l yL_settle wsL_settle { frames := 15, cells := 2 * uN n v, slots := 103 * uN n v, locals := 600 } E [.ref (aD E), .int (nI n), .ref (aO E)] x (fun u y => u = some (.int (nI 0)) ∧ VW y (vOU (sN n v) (nI (cN n v)).toInt64) [] []) (2 * uN n v) (103 * uN n v) := by
  refine CtW.of (cc := cL_settle) (nL := 4) (ret := (some .int)) (hh := [(0, 9, 12, 15)]) (by decide) rfl (Nat.le_of_ble_eq_true rfl) ?_
  intro p e s m args below meth c h hr hk htab
  refine g_lvs (lv' := [(0, _), (1, _), (2, _)]) rfl ?_
  refine g_aload_n h 2 dL_settle_0 rfl rfl ?_
  refine g_iconst (v := nI 0) h dL_settle_1 (by decide) ?_
  refine g_aload_n h 0 dL_settle_2 rfl rfl ?_
  refine g_iload_n h 1 dL_settle_3 rfl rfl ?_
  refine g_callV (As := [.int (nI n)]) (C := RX5) h 1 (c_X5_settle l E _ v hV n hn hI) rfl gL_settle_X5_settle rfl rfl rfl rfl (by decide +kernel) ⟨Nat.le_of_ble_eq_true rfl, Nat.le_of_ble_eq_true rfl⟩ (wat_D E _) rfl rfl dL_settle_4 ⟨by dsimp only; omega, by dsimp only; omega⟩ (Nat.le_of_ble_eq_true rfl) ?_
  rintro _ y ⟨rfl, hV⟩
  dsimp only [Option.toList, List.cons_append, List.nil_append]
  refine g_i2l h dL_settle_7 ?_
  refine g_lastO h dL_settle_8 ?_
  refine g_gen hV.setOU (fun y hV => ?_)
  refine g_goto h 15 dL_settle_9 (by decide) ?_
  refine g_iconst (v := nI 0) h dL_settle_15 (by decide) ?_
  exact g_iret h hr hk dL_settle_16 (by omega) (by omega) ⟨rfl, hV⟩
set_option maxRecDepth 100000 in
set_option maxHeartbeats 400000 in
theorem w_setRoom_bc (l : Launch) (E : gE) (x : St) (hlt : l.stackTraces = false) (v : Vw) (hV : VW x v [] []) (w : Int32) (w2 : Int32) (w3 : Int32) (hb : badC w) : Ct l yL_setRoom wsL_setRoom { frames := 15, cells := 1, slots := 6, locals := 600 } E [.ref (aD E), .int w, .int w2, .int w3, .ref (aO E)] x (fun u y => u = some (.int (nI 1)) ∧ y = x) 1 6 := by
  refine CtW.of (cc := cL_setRoom) (nL := 6) (ret := (some .int)) (hh := [(0, 19, 22, 13), (0, 19, 26, 15), (0, 19, 30, 17)]) (by decide) rfl (Nat.le_of_ble_eq_true rfl) ?_
  intro p e s m args below meth c h hr hk htab
  refine g_lvs (lv' := [(0, _), (1, _), (2, _), (3, _), (4, _)]) rfl ?_
  refine g_aload h 4 dL_setRoom_0 rfl ?_
  refine g_iconst (v := nI 0) h dL_setRoom_2 (by decide) ?_
  refine g_aload_n h 0 dL_setRoom_3 rfl rfl ?_
  refine g_iload_n h 1 dL_setRoom_4 rfl rfl ?_
  refine g_iload_n h 2 dL_setRoom_5 rfl rfl ?_
  refine g_iload_n h 3 dL_setRoom_6 rfl rfl ?_
  refine g_callVC (As := [.int _, .int _, .int _]) (C := RX5) (hh := [(0, 19, 22, 13), (0, 19, 26, 15), (0, 19, 30, 17)]) h htab 3 [] (⟨0, 19, 22, 13⟩ : ExceptionTableEntry) [(⟨0, 19, 26, 15⟩ : ExceptionTableEntry), (⟨0, 19, 30, 17⟩ : ExceptionTableEntry)] (t_X5_setRoom_bc l E _ hlt w w2 w3 hb) rfl gL_setRoom_X5_setRoom rfl rfl rfl rfl (by decide +kernel) ⟨Nat.le_of_ble_eq_true rfl, Nat.le_of_ble_eq_true rfl⟩ (wat_D E _) rfl rfl dL_setRoom_7 ⟨by dsimp only; omega, by dsimp only; omega⟩ (Nat.le_of_ble_eq_true rfl) rfl (fun _ hy => nomatch hy) (by decide) (by decide) (by decide +kernel) (by decide) (fun q => ?_)
  refine g_astore (lv' := [(0, _), (1, _), (2, _), (3, _), (4, _), (5, _)]) h [1, 2, 3, 4, 5, 0] dL_setRoom_22 (by decide) rfl ?_
  refine g_iconst (v := nI 1) h dL_setRoom_24 (by decide) ?_
  exact g_iret h hr hk dL_setRoom_25 (by omega) (by omega) ⟨rfl, rfl⟩
set_option maxRecDepth 100000 in
set_option maxHeartbeats 400000 in
theorem w_setRoom_bw (l : Launch) (E : gE) (x : St) (hlt : l.stackTraces = false) (v : Vw) (hV : VW x v [] []) (i : Nat) (w : Int32) (w3 : Int32) (hi : i < 4) (hb : w < nI 1 ∨ nI 4 < w) : Ct l yL_setRoom wsL_setRoom { frames := 15, cells := 1, slots := 6, locals := 600 } E [.ref (aD E), .int (nI i), .int w, .int w3, .ref (aO E)] x (fun u y => u = some (.int (nI 2)) ∧ y = x) 1 6 := by
  refine CtW.of (cc := cL_setRoom) (nL := 6) (ret := (some .int)) (hh := [(0, 19, 22, 13), (0, 19, 26, 15), (0, 19, 30, 17)]) (by decide) rfl (Nat.le_of_ble_eq_true rfl) ?_
  intro p e s m args below meth c h hr hk htab
  refine g_lvs (lv' := [(0, _), (1, _), (2, _), (3, _), (4, _)]) rfl ?_
  refine g_aload h 4 dL_setRoom_0 rfl ?_
  refine g_iconst (v := nI 0) h dL_setRoom_2 (by decide) ?_
  refine g_aload_n h 0 dL_setRoom_3 rfl rfl ?_
  refine g_iload_n h 1 dL_setRoom_4 rfl rfl ?_
  refine g_iload_n h 2 dL_setRoom_5 rfl rfl ?_
  refine g_iload_n h 3 dL_setRoom_6 rfl rfl ?_
  refine g_callVC (As := [.int (nI i), .int _, .int _]) (C := RX5) (hh := [(0, 19, 22, 13), (0, 19, 26, 15), (0, 19, 30, 17)]) h htab 3 [(⟨0, 19, 22, 13⟩ : ExceptionTableEntry)] (⟨0, 19, 26, 15⟩ : ExceptionTableEntry) [(⟨0, 19, 30, 17⟩ : ExceptionTableEntry)] (t_X5_setRoom_bw l E _ hlt i w w3 hi hb) rfl gL_setRoom_X5_setRoom rfl rfl rfl rfl (by decide +kernel) ⟨Nat.le_of_ble_eq_true rfl, Nat.le_of_ble_eq_true rfl⟩ (wat_D E _) rfl rfl dL_setRoom_7 ⟨by dsimp only; omega, by dsimp only; omega⟩ (Nat.le_of_ble_eq_true rfl) rfl (fun y hy => by rw [List.mem_singleton.mp hy]; exact ⟨by decide, "java/lang/IndexOutOfBoundsException", by decide +kernel, by decide⟩) (by decide) (by decide) (by decide +kernel) (by decide) (fun q => ?_)
  refine g_astore (lv' := [(0, _), (1, _), (2, _), (3, _), (4, _), (5, _)]) h [1, 2, 3, 4, 5, 0] dL_setRoom_26 (by decide) rfl ?_
  refine g_iconst (v := nI 2) h dL_setRoom_28 (by decide) ?_
  exact g_iret h hr hk dL_setRoom_29 (by omega) (by omega) ⟨rfl, rfl⟩
set_option maxRecDepth 100000 in
set_option maxHeartbeats 400000 in
theorem w_setRoom_bv (l : Launch) (E : gE) (x : St) (hlt : l.stackTraces = false) (v : Vw) (hV : VW x v [] []) (i : Nat) (a : Nat) (w : Int32) (hi : i < 4) (ha1 : 1 ≤ a) (ha : a ≤ 4) (hb : w < 0 ∨ nI 2 < w) : Ct l yL_setRoom wsL_setRoom { frames := 15, cells := 1, slots := 6, locals := 600 } E [.ref (aD E), .int (nI i), .int (nI a), .int w, .ref (aO E)] x (fun u y => u = some (.int (nI 2)) ∧ y = x) 1 6 := by
  refine CtW.of (cc := cL_setRoom) (nL := 6) (ret := (some .int)) (hh := [(0, 19, 22, 13), (0, 19, 26, 15), (0, 19, 30, 17)]) (by decide) rfl (Nat.le_of_ble_eq_true rfl) ?_
  intro p e s m args below meth c h hr hk htab
  refine g_lvs (lv' := [(0, _), (1, _), (2, _), (3, _), (4, _)]) rfl ?_
  refine g_aload h 4 dL_setRoom_0 rfl ?_
  refine g_iconst (v := nI 0) h dL_setRoom_2 (by decide) ?_
  refine g_aload_n h 0 dL_setRoom_3 rfl rfl ?_
  refine g_iload_n h 1 dL_setRoom_4 rfl rfl ?_
  refine g_iload_n h 2 dL_setRoom_5 rfl rfl ?_
  refine g_iload_n h 3 dL_setRoom_6 rfl rfl ?_
  refine g_callVC (As := [.int (nI i), .int (nI a), .int _]) (C := RX5) (hh := [(0, 19, 22, 13), (0, 19, 26, 15), (0, 19, 30, 17)]) h htab 3 [(⟨0, 19, 22, 13⟩ : ExceptionTableEntry)] (⟨0, 19, 26, 15⟩ : ExceptionTableEntry) [(⟨0, 19, 30, 17⟩ : ExceptionTableEntry)] (t_X5_setRoom_bv l E _ hlt i a w hi ha1 ha hb) rfl gL_setRoom_X5_setRoom rfl rfl rfl rfl (by decide +kernel) ⟨Nat.le_of_ble_eq_true rfl, Nat.le_of_ble_eq_true rfl⟩ (wat_D E _) rfl rfl dL_setRoom_7 ⟨by dsimp only; omega, by dsimp only; omega⟩ (Nat.le_of_ble_eq_true rfl) rfl (fun y hy => by rw [List.mem_singleton.mp hy]; exact ⟨by decide, "java/lang/IndexOutOfBoundsException", by decide +kernel, by decide⟩) (by decide) (by decide) (by decide +kernel) (by decide) (fun q => ?_)
  refine g_astore (lv' := [(0, _), (1, _), (2, _), (3, _), (4, _), (5, _)]) h [1, 2, 3, 4, 5, 0] dL_setRoom_26 (by decide) rfl ?_
  refine g_iconst (v := nI 2) h dL_setRoom_28 (by decide) ?_
  exact g_iret h hr hk dL_setRoom_29 (by omega) (by omega) ⟨rfl, rfl⟩
set_option maxRecDepth 100000 in
set_option maxHeartbeats 400000 in
theorem w_setRoom_s (l : Launch) (E : gE) (x : St) (hlt : l.stackTraces = false) (v : Vw) (hV : VW x v [] []) (i : Nat) (a : Nat) (b : Nat) (hi : i < 4) (ha1 : 1 ≤ a) (ha : a ≤ 4) (hb : b ≤ 2) (hin : ¬ nI (r_X0_isInUse v i) = 0) : Ct l yL_setRoom wsL_setRoom { frames := 15, cells := 1, slots := 6, locals := 600 } E [.ref (aD E), .int (nI i), .int (nI a), .int (nI b), .ref (aO E)] x (fun u y => u = some (.int (nI 3)) ∧ y = x) 1 6 := by
  refine CtW.of (cc := cL_setRoom) (nL := 6) (ret := (some .int)) (hh := [(0, 19, 22, 13), (0, 19, 26, 15), (0, 19, 30, 17)]) (by decide) rfl (Nat.le_of_ble_eq_true rfl) ?_
  intro p e s m args below meth c h hr hk htab
  refine g_lvs (lv' := [(0, _), (1, _), (2, _), (3, _), (4, _)]) rfl ?_
  refine g_aload h 4 dL_setRoom_0 rfl ?_
  refine g_iconst (v := nI 0) h dL_setRoom_2 (by decide) ?_
  refine g_aload_n h 0 dL_setRoom_3 rfl rfl ?_
  refine g_iload_n h 1 dL_setRoom_4 rfl rfl ?_
  refine g_iload_n h 2 dL_setRoom_5 rfl rfl ?_
  refine g_iload_n h 3 dL_setRoom_6 rfl rfl ?_
  refine g_callVC (As := [.int (nI i), .int (nI a), .int (nI b)]) (C := RX5) (hh := [(0, 19, 22, 13), (0, 19, 26, 15), (0, 19, 30, 17)]) h htab 3 [(⟨0, 19, 22, 13⟩ : ExceptionTableEntry), (⟨0, 19, 26, 15⟩ : ExceptionTableEntry)] (⟨0, 19, 30, 17⟩ : ExceptionTableEntry) [] (t_X5_setRoom_s l E _ hlt v [] hV i a b hi ha1 ha hb hin) rfl gL_setRoom_X5_setRoom rfl rfl rfl rfl (by decide +kernel) ⟨Nat.le_of_ble_eq_true rfl, Nat.le_of_ble_eq_true rfl⟩ (wat_D E _) rfl rfl dL_setRoom_7 ⟨by dsimp only; omega, by dsimp only; omega⟩ (Nat.le_of_ble_eq_true rfl) rfl (fun y hy => by rcases List.mem_cons.mp hy with rfl | hy; exact ⟨by decide, "java/lang/IndexOutOfBoundsException", by decide +kernel, by decide⟩; rw [List.mem_singleton.mp hy]; exact ⟨by decide, "java/lang/IllegalArgumentException", by decide +kernel, by decide⟩) (by decide) (by decide) (by decide +kernel) (by decide) (fun q => ?_)
  refine g_astore (lv' := [(0, _), (1, _), (2, _), (3, _), (4, _), (5, _)]) h [1, 2, 3, 4, 5, 0] dL_setRoom_30 (by decide) rfl ?_
  refine g_iconst (v := nI 3) h dL_setRoom_32 (by decide) ?_
  exact g_iret h hr hk dL_setRoom_33 (by omega) (by omega) ⟨rfl, rfl⟩
set_option maxRecDepth 100000 in
set_option maxHeartbeats 400000 in
theorem w_read_bc (l : Launch) (E : gE) (x : St) (hlt : l.stackTraces = false) (v : Vw) (hV : VW x v [] []) (w : Int32) (w2 : Int32) (hb : badC w) : Ct l yL_read wsL_read { frames := 15, cells := 1, slots := 6, locals := 600 } E [.ref (aD E), .int w, .int w2, .ref (aO E)] x (fun u y => u = some (.int (nI 1)) ∧ y = x) 1 6 := by
  refine CtW.of (cc := cL_read) (nL := 5) (ret := (some .int)) (hh := [(0, 10, 13, 13), (0, 10, 17, 17)]) (by decide) rfl (Nat.le_of_ble_eq_true rfl) ?_
  intro p e s m args below meth c h hr hk htab
  refine g_lvs (lv' := [(0, _), (1, _), (2, _), (3, _)]) rfl ?_
  refine g_aload_n h 3 dL_read_0 rfl rfl ?_
  refine g_iconst (v := nI 0) h dL_read_1 (by decide) ?_
  refine g_aload_n h 0 dL_read_2 rfl rfl ?_
  refine g_iload_n h 1 dL_read_3 rfl rfl ?_
  refine g_iload_n h 2 dL_read_4 rfl rfl ?_
  refine g_callVC (As := [.int _, .int _]) (C := RX5) (hh := [(0, 10, 13, 13), (0, 10, 17, 17)]) h htab 2 [] (⟨0, 10, 13, 13⟩ : ExceptionTableEntry) [(⟨0, 10, 17, 17⟩ : ExceptionTableEntry)] (t_X5_read_bc l E _ hlt w w2 hb) rfl gL_read_X5_read rfl rfl rfl rfl (by decide +kernel) ⟨Nat.le_of_ble_eq_true rfl, Nat.le_of_ble_eq_true rfl⟩ (wat_D E _) rfl rfl dL_read_5 ⟨by dsimp only; omega, by dsimp only; omega⟩ (Nat.le_of_ble_eq_true rfl) rfl (fun _ hy => nomatch hy) (by decide) (by decide) (by decide +kernel) (by decide) (fun q => ?_)
  refine g_astore (lv' := [(0, _), (1, _), (2, _), (3, _), (4, _)]) h [1, 2, 3, 4, 0] dL_read_13 (by decide) rfl ?_
  refine g_iconst (v := nI 1) h dL_read_15 (by decide) ?_
  exact g_iret h hr hk dL_read_16 (by omega) (by omega) ⟨rfl, rfl⟩
set_option maxRecDepth 100000 in
set_option maxHeartbeats 400000 in
theorem w_read_bl (l : Launch) (E : gE) (x : St) (hlt : l.stackTraces = false) (v : Vw) (hV : VW x v [] []) (i : Nat) (w : Int32) (hi : i < 4) (hb : badL w) : Ct l yL_read wsL_read { frames := 15, cells := 1, slots := 6, locals := 600 } E [.ref (aD E), .int (nI i), .int w, .ref (aO E)] x (fun u y => u = some (.int (nI 1)) ∧ y = x) 1 6 := by
  refine CtW.of (cc := cL_read) (nL := 5) (ret := (some .int)) (hh := [(0, 10, 13, 13), (0, 10, 17, 17)]) (by decide) rfl (Nat.le_of_ble_eq_true rfl) ?_
  intro p e s m args below meth c h hr hk htab
  refine g_lvs (lv' := [(0, _), (1, _), (2, _), (3, _)]) rfl ?_
  refine g_aload_n h 3 dL_read_0 rfl rfl ?_
  refine g_iconst (v := nI 0) h dL_read_1 (by decide) ?_
  refine g_aload_n h 0 dL_read_2 rfl rfl ?_
  refine g_iload_n h 1 dL_read_3 rfl rfl ?_
  refine g_iload_n h 2 dL_read_4 rfl rfl ?_
  refine g_callVC (As := [.int (nI i), .int _]) (C := RX5) (hh := [(0, 10, 13, 13), (0, 10, 17, 17)]) h htab 2 [] (⟨0, 10, 13, 13⟩ : ExceptionTableEntry) [(⟨0, 10, 17, 17⟩ : ExceptionTableEntry)] (t_X5_read_bl l E _ hlt i w hi hb) rfl gL_read_X5_read rfl rfl rfl rfl (by decide +kernel) ⟨Nat.le_of_ble_eq_true rfl, Nat.le_of_ble_eq_true rfl⟩ (wat_D E _) rfl rfl dL_read_5 ⟨by dsimp only; omega, by dsimp only; omega⟩ (Nat.le_of_ble_eq_true rfl) rfl (fun _ hy => nomatch hy) (by decide) (by decide) (by decide +kernel) (by decide) (fun q => ?_)
  refine g_astore (lv' := [(0, _), (1, _), (2, _), (3, _), (4, _)]) h [1, 2, 3, 4, 0] dL_read_13 (by decide) rfl ?_
  refine g_iconst (v := nI 1) h dL_read_15 (by decide) ?_
  exact g_iret h hr hk dL_read_16 (by omega) (by omega) ⟨rfl, rfl⟩
set_option maxRecDepth 100000 in
set_option maxHeartbeats 400000 in
theorem w_read_s (l : Launch) (E : gE) (x : St) (hlt : l.stackTraces = false) (v : Vw) (hV : VW x v [] []) (i : Nat) (j : Nat) (hi : i < 4) (hj : j < 16) (hu : v.x.AC i 3 0 = nI (nat (v.x.AC i 3 0)) ∧ nat (v.x.AC i 3 0) < 16) (hac : ¬ (v.x.FR i 0 = -1 ∧ v.x.AC i 2 j = -1 ∧ (nI (r_X0_needsWayFor v i j) = 0 ∨ nI (r_X0_lacksVictimRoomFor v i (nat (v.x.AC i 3 0))) = 0))) : Ct l yL_read wsL_read { frames := 15, cells := 1, slots := 6, locals := 600 } E [.ref (aD E), .int (nI i), .int (nI j), .ref (aO E)] x (fun u y => u = some (.int (nI 2)) ∧ y = x) 1 6 := by
  refine CtW.of (cc := cL_read) (nL := 5) (ret := (some .int)) (hh := [(0, 10, 13, 13), (0, 10, 17, 17)]) (by decide) rfl (Nat.le_of_ble_eq_true rfl) ?_
  intro p e s m args below meth c h hr hk htab
  refine g_lvs (lv' := [(0, _), (1, _), (2, _), (3, _)]) rfl ?_
  refine g_aload_n h 3 dL_read_0 rfl rfl ?_
  refine g_iconst (v := nI 0) h dL_read_1 (by decide) ?_
  refine g_aload_n h 0 dL_read_2 rfl rfl ?_
  refine g_iload_n h 1 dL_read_3 rfl rfl ?_
  refine g_iload_n h 2 dL_read_4 rfl rfl ?_
  refine g_callVC (As := [.int (nI i), .int (nI j)]) (C := RX5) (hh := [(0, 10, 13, 13), (0, 10, 17, 17)]) h htab 2 [(⟨0, 10, 13, 13⟩ : ExceptionTableEntry)] (⟨0, 10, 17, 17⟩ : ExceptionTableEntry) [] (t_X5_read_s l E _ hlt v [] hV i j hi hj hu hac) rfl gL_read_X5_read rfl rfl rfl rfl (by decide +kernel) ⟨Nat.le_of_ble_eq_true rfl, Nat.le_of_ble_eq_true rfl⟩ (wat_D E _) rfl rfl dL_read_5 ⟨by dsimp only; omega, by dsimp only; omega⟩ (Nat.le_of_ble_eq_true rfl) rfl (fun y hy => by rw [List.mem_singleton.mp hy]; exact ⟨by decide, "java/lang/IndexOutOfBoundsException", by decide +kernel, by decide⟩) (by decide) (by decide) (by decide +kernel) (by decide) (fun q => ?_)
  refine g_astore (lv' := [(0, _), (1, _), (2, _), (3, _), (4, _)]) h [1, 2, 3, 4, 0] dL_read_17 (by decide) rfl ?_
  refine g_iconst (v := nI 2) h dL_read_19 (by decide) ?_
  exact g_iret h hr hk dL_read_20 (by omega) (by omega) ⟨rfl, rfl⟩
set_option maxRecDepth 100000 in
set_option maxHeartbeats 400000 in
theorem w_write_bc (l : Launch) (E : gE) (x : St) (hlt : l.stackTraces = false) (v : Vw) (hV : VW x v [] []) (w : Int32) (w2 : Int32) (w3 : Int32) (hb : badC w) : Ct l yL_write wsL_write { frames := 15, cells := 1, slots := 6, locals := 600 } E [.ref (aD E), .int w, .int w2, .int w3, .ref (aO E)] x (fun u y => u = some (.int (nI 1)) ∧ y = x) 1 6 := by
  refine CtW.of (cc := cL_write) (nL := 6) (ret := (some .int)) (hh := [(0, 19, 22, 13), (0, 19, 26, 15), (0, 19, 30, 17)]) (by decide) rfl (Nat.le_of_ble_eq_true rfl) ?_
  intro p e s m args below meth c h hr hk htab
  refine g_lvs (lv' := [(0, _), (1, _), (2, _), (3, _), (4, _)]) rfl ?_
  refine g_aload h 4 dL_write_0 rfl ?_
  refine g_iconst (v := nI 0) h dL_write_2 (by decide) ?_
  refine g_aload_n h 0 dL_write_3 rfl rfl ?_
  refine g_iload_n h 1 dL_write_4 rfl rfl ?_
  refine g_iload_n h 2 dL_write_5 rfl rfl ?_
  refine g_iload_n h 3 dL_write_6 rfl rfl ?_
  refine g_callVC (As := [.int _, .int _, .int _]) (C := RX5) (hh := [(0, 19, 22, 13), (0, 19, 26, 15), (0, 19, 30, 17)]) h htab 3 [] (⟨0, 19, 22, 13⟩ : ExceptionTableEntry) [(⟨0, 19, 26, 15⟩ : ExceptionTableEntry), (⟨0, 19, 30, 17⟩ : ExceptionTableEntry)] (t_X5_write_bc l E _ hlt w w2 w3 hb) rfl gL_write_X5_write rfl rfl rfl rfl (by decide +kernel) ⟨Nat.le_of_ble_eq_true rfl, Nat.le_of_ble_eq_true rfl⟩ (wat_D E _) rfl rfl dL_write_7 ⟨by dsimp only; omega, by dsimp only; omega⟩ (Nat.le_of_ble_eq_true rfl) rfl (fun _ hy => nomatch hy) (by decide) (by decide) (by decide +kernel) (by decide) (fun q => ?_)
  refine g_astore (lv' := [(0, _), (1, _), (2, _), (3, _), (4, _), (5, _)]) h [1, 2, 3, 4, 5, 0] dL_write_22 (by decide) rfl ?_
  refine g_iconst (v := nI 1) h dL_write_24 (by decide) ?_
  exact g_iret h hr hk dL_write_25 (by omega) (by omega) ⟨rfl, rfl⟩
set_option maxRecDepth 100000 in
set_option maxHeartbeats 400000 in
theorem w_write_bl (l : Launch) (E : gE) (x : St) (hlt : l.stackTraces = false) (v : Vw) (hV : VW x v [] []) (i : Nat) (w : Int32) (w3 : Int32) (hi : i < 4) (hb : badL w) : Ct l yL_write wsL_write { frames := 15, cells := 1, slots := 6, locals := 600 } E [.ref (aD E), .int (nI i), .int w, .int w3, .ref (aO E)] x (fun u y => u = some (.int (nI 1)) ∧ y = x) 1 6 := by
  refine CtW.of (cc := cL_write) (nL := 6) (ret := (some .int)) (hh := [(0, 19, 22, 13), (0, 19, 26, 15), (0, 19, 30, 17)]) (by decide) rfl (Nat.le_of_ble_eq_true rfl) ?_
  intro p e s m args below meth c h hr hk htab
  refine g_lvs (lv' := [(0, _), (1, _), (2, _), (3, _), (4, _)]) rfl ?_
  refine g_aload h 4 dL_write_0 rfl ?_
  refine g_iconst (v := nI 0) h dL_write_2 (by decide) ?_
  refine g_aload_n h 0 dL_write_3 rfl rfl ?_
  refine g_iload_n h 1 dL_write_4 rfl rfl ?_
  refine g_iload_n h 2 dL_write_5 rfl rfl ?_
  refine g_iload_n h 3 dL_write_6 rfl rfl ?_
  refine g_callVC (As := [.int (nI i), .int _, .int _]) (C := RX5) (hh := [(0, 19, 22, 13), (0, 19, 26, 15), (0, 19, 30, 17)]) h htab 3 [] (⟨0, 19, 22, 13⟩ : ExceptionTableEntry) [(⟨0, 19, 26, 15⟩ : ExceptionTableEntry), (⟨0, 19, 30, 17⟩ : ExceptionTableEntry)] (t_X5_write_bl l E _ hlt i w w3 hi hb) rfl gL_write_X5_write rfl rfl rfl rfl (by decide +kernel) ⟨Nat.le_of_ble_eq_true rfl, Nat.le_of_ble_eq_true rfl⟩ (wat_D E _) rfl rfl dL_write_7 ⟨by dsimp only; omega, by dsimp only; omega⟩ (Nat.le_of_ble_eq_true rfl) rfl (fun _ hy => nomatch hy) (by decide) (by decide) (by decide +kernel) (by decide) (fun q => ?_)
  refine g_astore (lv' := [(0, _), (1, _), (2, _), (3, _), (4, _), (5, _)]) h [1, 2, 3, 4, 5, 0] dL_write_22 (by decide) rfl ?_
  refine g_iconst (v := nI 1) h dL_write_24 (by decide) ?_
  exact g_iret h hr hk dL_write_25 (by omega) (by omega) ⟨rfl, rfl⟩
set_option maxRecDepth 100000 in
set_option maxHeartbeats 400000 in
theorem w_write_bv (l : Launch) (E : gE) (x : St) (hlt : l.stackTraces = false) (v : Vw) (hV : VW x v [] []) (i : Nat) (j : Nat) (w : Int32) (hi : i < 4) (hj : j < 16) (hb : w < 0 ∨ nI 9999 < w) : Ct l yL_write wsL_write { frames := 15, cells := 1, slots := 6, locals := 600 } E [.ref (aD E), .int (nI i), .int (nI j), .int w, .ref (aO E)] x (fun u y => u = some (.int (nI 2)) ∧ y = x) 1 6 := by
  refine CtW.of (cc := cL_write) (nL := 6) (ret := (some .int)) (hh := [(0, 19, 22, 13), (0, 19, 26, 15), (0, 19, 30, 17)]) (by decide) rfl (Nat.le_of_ble_eq_true rfl) ?_
  intro p e s m args below meth c h hr hk htab
  refine g_lvs (lv' := [(0, _), (1, _), (2, _), (3, _), (4, _)]) rfl ?_
  refine g_aload h 4 dL_write_0 rfl ?_
  refine g_iconst (v := nI 0) h dL_write_2 (by decide) ?_
  refine g_aload_n h 0 dL_write_3 rfl rfl ?_
  refine g_iload_n h 1 dL_write_4 rfl rfl ?_
  refine g_iload_n h 2 dL_write_5 rfl rfl ?_
  refine g_iload_n h 3 dL_write_6 rfl rfl ?_
  refine g_callVC (As := [.int (nI i), .int (nI j), .int _]) (C := RX5) (hh := [(0, 19, 22, 13), (0, 19, 26, 15), (0, 19, 30, 17)]) h htab 3 [(⟨0, 19, 22, 13⟩ : ExceptionTableEntry)] (⟨0, 19, 26, 15⟩ : ExceptionTableEntry) [(⟨0, 19, 30, 17⟩ : ExceptionTableEntry)] (t_X5_write_bv l E _ hlt i j w hi hj hb) rfl gL_write_X5_write rfl rfl rfl rfl (by decide +kernel) ⟨Nat.le_of_ble_eq_true rfl, Nat.le_of_ble_eq_true rfl⟩ (wat_D E _) rfl rfl dL_write_7 ⟨by dsimp only; omega, by dsimp only; omega⟩ (Nat.le_of_ble_eq_true rfl) rfl (fun y hy => by rw [List.mem_singleton.mp hy]; exact ⟨by decide, "java/lang/IndexOutOfBoundsException", by decide +kernel, by decide⟩) (by decide) (by decide) (by decide +kernel) (by decide) (fun q => ?_)
  refine g_astore (lv' := [(0, _), (1, _), (2, _), (3, _), (4, _), (5, _)]) h [1, 2, 3, 4, 5, 0] dL_write_26 (by decide) rfl ?_
  refine g_iconst (v := nI 2) h dL_write_28 (by decide) ?_
  exact g_iret h hr hk dL_write_29 (by omega) (by omega) ⟨rfl, rfl⟩
set_option maxRecDepth 100000 in
set_option maxHeartbeats 400000 in
theorem w_write_s (l : Launch) (E : gE) (x : St) (hlt : l.stackTraces = false) (v : Vw) (hV : VW x v [] []) (i : Nat) (j : Nat) (w : Nat) (hi : i < 4) (hj : j < 16) (hw : w ≤ 9999) (hu : v.x.AC i 3 0 = nI (nat (v.x.AC i 3 0)) ∧ nat (v.x.AC i 3 0) < 16) (hac : ¬ (v.x.FR i 0 = -1 ∧ v.x.AC i 2 j = -1 ∧ (nI (r_X0_needsWayFor v i j) = 0 ∨ nI (r_X0_lacksVictimRoomFor v i (nat (v.x.AC i 3 0))) = 0))) : Ct l yL_write wsL_write { frames := 15, cells := 1, slots := 6, locals := 600 } E [.ref (aD E), .int (nI i), .int (nI j), .int (nI w), .ref (aO E)] x (fun u y => u = some (.int (nI 3)) ∧ y = x) 1 6 := by
  refine CtW.of (cc := cL_write) (nL := 6) (ret := (some .int)) (hh := [(0, 19, 22, 13), (0, 19, 26, 15), (0, 19, 30, 17)]) (by decide) rfl (Nat.le_of_ble_eq_true rfl) ?_
  intro p e s m args below meth c h hr hk htab
  refine g_lvs (lv' := [(0, _), (1, _), (2, _), (3, _), (4, _)]) rfl ?_
  refine g_aload h 4 dL_write_0 rfl ?_
  refine g_iconst (v := nI 0) h dL_write_2 (by decide) ?_
  refine g_aload_n h 0 dL_write_3 rfl rfl ?_
  refine g_iload_n h 1 dL_write_4 rfl rfl ?_
  refine g_iload_n h 2 dL_write_5 rfl rfl ?_
  refine g_iload_n h 3 dL_write_6 rfl rfl ?_
  refine g_callVC (As := [.int (nI i), .int (nI j), .int (nI w)]) (C := RX5) (hh := [(0, 19, 22, 13), (0, 19, 26, 15), (0, 19, 30, 17)]) h htab 3 [(⟨0, 19, 22, 13⟩ : ExceptionTableEntry), (⟨0, 19, 26, 15⟩ : ExceptionTableEntry)] (⟨0, 19, 30, 17⟩ : ExceptionTableEntry) [] (t_X5_write_s l E _ hlt v [] hV i j w hi hj hw hu hac) rfl gL_write_X5_write rfl rfl rfl rfl (by decide +kernel) ⟨Nat.le_of_ble_eq_true rfl, Nat.le_of_ble_eq_true rfl⟩ (wat_D E _) rfl rfl dL_write_7 ⟨by dsimp only; omega, by dsimp only; omega⟩ (Nat.le_of_ble_eq_true rfl) rfl (fun y hy => by rcases List.mem_cons.mp hy with rfl | hy; exact ⟨by decide, "java/lang/IndexOutOfBoundsException", by decide +kernel, by decide⟩; rw [List.mem_singleton.mp hy]; exact ⟨by decide, "java/lang/IllegalArgumentException", by decide +kernel, by decide⟩) (by decide) (by decide) (by decide +kernel) (by decide) (fun q => ?_)
  refine g_astore (lv' := [(0, _), (1, _), (2, _), (3, _), (4, _), (5, _)]) h [1, 2, 3, 4, 5, 0] dL_write_30 (by decide) rfl ?_
  refine g_iconst (v := nI 3) h dL_write_32 (by decide) ?_
  exact g_iret h hr hk dL_write_33 (by omega) (by omega) ⟨rfl, rfl⟩
set_option maxRecDepth 100000 in
set_option maxHeartbeats 400000 in
theorem w_evict_bc (l : Launch) (E : gE) (x : St) (hlt : l.stackTraces = false) (v : Vw) (hV : VW x v [] []) (w : Int32) (w2 : Int32) (hb : badC w) : Ct l yL_evict wsL_evict { frames := 15, cells := 1, slots := 6, locals := 600 } E [.ref (aD E), .int w, .int w2, .ref (aO E)] x (fun u y => u = some (.int (nI 1)) ∧ y = x) 1 6 := by
  refine CtW.of (cc := cL_evict) (nL := 5) (ret := (some .int)) (hh := [(0, 10, 13, 13), (0, 10, 17, 29), (0, 10, 21, 17)]) (by decide) rfl (Nat.le_of_ble_eq_true rfl) ?_
  intro p e s m args below meth c h hr hk htab
  refine g_lvs (lv' := [(0, _), (1, _), (2, _), (3, _)]) rfl ?_
  refine g_aload_n h 3 dL_evict_0 rfl rfl ?_
  refine g_iconst (v := nI 0) h dL_evict_1 (by decide) ?_
  refine g_aload_n h 0 dL_evict_2 rfl rfl ?_
  refine g_iload_n h 1 dL_evict_3 rfl rfl ?_
  refine g_iload_n h 2 dL_evict_4 rfl rfl ?_
  refine g_callVC (As := [.int _, .int _]) (C := RX5) (hh := [(0, 10, 13, 13), (0, 10, 17, 29), (0, 10, 21, 17)]) h htab 2 [] (⟨0, 10, 13, 13⟩ : ExceptionTableEntry) [(⟨0, 10, 17, 29⟩ : ExceptionTableEntry), (⟨0, 10, 21, 17⟩ : ExceptionTableEntry)] (t_X5_evict_bc l E _ hlt w w2 hb) rfl gL_evict_X5_evict rfl rfl rfl rfl (by decide +kernel) ⟨Nat.le_of_ble_eq_true rfl, Nat.le_of_ble_eq_true rfl⟩ (wat_D E _) rfl rfl dL_evict_5 ⟨by dsimp only; omega, by dsimp only; omega⟩ (Nat.le_of_ble_eq_true rfl) rfl (fun _ hy => nomatch hy) (by decide) (by decide) (by decide +kernel) (by decide) (fun q => ?_)
  refine g_astore (lv' := [(0, _), (1, _), (2, _), (3, _), (4, _)]) h [1, 2, 3, 4, 0] dL_evict_13 (by decide) rfl ?_
  refine g_iconst (v := nI 1) h dL_evict_15 (by decide) ?_
  exact g_iret h hr hk dL_evict_16 (by omega) (by omega) ⟨rfl, rfl⟩
set_option maxRecDepth 100000 in
set_option maxHeartbeats 400000 in
theorem w_evict_bl (l : Launch) (E : gE) (x : St) (hlt : l.stackTraces = false) (v : Vw) (hV : VW x v [] []) (i : Nat) (w : Int32) (hi : i < 4) (hb : badL w) : Ct l yL_evict wsL_evict { frames := 15, cells := 1, slots := 6, locals := 600 } E [.ref (aD E), .int (nI i), .int w, .ref (aO E)] x (fun u y => u = some (.int (nI 1)) ∧ y = x) 1 6 := by
  refine CtW.of (cc := cL_evict) (nL := 5) (ret := (some .int)) (hh := [(0, 10, 13, 13), (0, 10, 17, 29), (0, 10, 21, 17)]) (by decide) rfl (Nat.le_of_ble_eq_true rfl) ?_
  intro p e s m args below meth c h hr hk htab
  refine g_lvs (lv' := [(0, _), (1, _), (2, _), (3, _)]) rfl ?_
  refine g_aload_n h 3 dL_evict_0 rfl rfl ?_
  refine g_iconst (v := nI 0) h dL_evict_1 (by decide) ?_
  refine g_aload_n h 0 dL_evict_2 rfl rfl ?_
  refine g_iload_n h 1 dL_evict_3 rfl rfl ?_
  refine g_iload_n h 2 dL_evict_4 rfl rfl ?_
  refine g_callVC (As := [.int (nI i), .int _]) (C := RX5) (hh := [(0, 10, 13, 13), (0, 10, 17, 29), (0, 10, 21, 17)]) h htab 2 [] (⟨0, 10, 13, 13⟩ : ExceptionTableEntry) [(⟨0, 10, 17, 29⟩ : ExceptionTableEntry), (⟨0, 10, 21, 17⟩ : ExceptionTableEntry)] (t_X5_evict_bl l E _ hlt i w hi hb) rfl gL_evict_X5_evict rfl rfl rfl rfl (by decide +kernel) ⟨Nat.le_of_ble_eq_true rfl, Nat.le_of_ble_eq_true rfl⟩ (wat_D E _) rfl rfl dL_evict_5 ⟨by dsimp only; omega, by dsimp only; omega⟩ (Nat.le_of_ble_eq_true rfl) rfl (fun _ hy => nomatch hy) (by decide) (by decide) (by decide +kernel) (by decide) (fun q => ?_)
  refine g_astore (lv' := [(0, _), (1, _), (2, _), (3, _), (4, _)]) h [1, 2, 3, 4, 0] dL_evict_13 (by decide) rfl ?_
  refine g_iconst (v := nI 1) h dL_evict_15 (by decide) ?_
  exact g_iret h hr hk dL_evict_16 (by omega) (by omega) ⟨rfl, rfl⟩
set_option maxRecDepth 100000 in
set_option maxHeartbeats 400000 in
theorem w_evict_t (l : Launch) (E : gE) (x : St) (hlt : l.stackTraces = false) (v : Vw) (hV : VW x v [] []) (i : Nat) (j : Nat) (hi : i < 4) (hj : j < 16) (hh : nI (r_X0_holds v i j) = 0) : Ct l yL_evict wsL_evict { frames := 15, cells := 1, slots := 6, locals := 600 } E [.ref (aD E), .int (nI i), .int (nI j), .ref (aO E)] x (fun u y => u = some (.int (nI 2)) ∧ y = x) 1 6 := by
  refine CtW.of (cc := cL_evict) (nL := 5) (ret := (some .int)) (hh := [(0, 10, 13, 13), (0, 10, 17, 29), (0, 10, 21, 17)]) (by decide) rfl (Nat.le_of_ble_eq_true rfl) ?_
  intro p e s m args below meth c h hr hk htab
  refine g_lvs (lv' := [(0, _), (1, _), (2, _), (3, _)]) rfl ?_
  refine g_aload_n h 3 dL_evict_0 rfl rfl ?_
  refine g_iconst (v := nI 0) h dL_evict_1 (by decide) ?_
  refine g_aload_n h 0 dL_evict_2 rfl rfl ?_
  refine g_iload_n h 1 dL_evict_3 rfl rfl ?_
  refine g_iload_n h 2 dL_evict_4 rfl rfl ?_
  refine g_callVC (As := [.int (nI i), .int (nI j)]) (C := RX5) (hh := [(0, 10, 13, 13), (0, 10, 17, 29), (0, 10, 21, 17)]) h htab 2 [(⟨0, 10, 13, 13⟩ : ExceptionTableEntry)] (⟨0, 10, 17, 29⟩ : ExceptionTableEntry) [(⟨0, 10, 21, 17⟩ : ExceptionTableEntry)] (t_X5_evict_t l E _ hlt v [] hV i j hi hj hh) rfl gL_evict_X5_evict rfl rfl rfl rfl (by decide +kernel) ⟨Nat.le_of_ble_eq_true rfl, Nat.le_of_ble_eq_true rfl⟩ (wat_D E _) rfl rfl dL_evict_5 ⟨by dsimp only; omega, by dsimp only; omega⟩ (Nat.le_of_ble_eq_true rfl) rfl (fun y hy => by rw [List.mem_singleton.mp hy]; exact ⟨by decide, "java/lang/IndexOutOfBoundsException", by decide +kernel, by decide⟩) (by decide) (by decide) (by decide +kernel) (by decide) (fun q => ?_)
  refine g_astore (lv' := [(0, _), (1, _), (2, _), (3, _), (4, _)]) h [1, 2, 3, 4, 0] dL_evict_17 (by decide) rfl ?_
  refine g_iconst (v := nI 2) h dL_evict_19 (by decide) ?_
  exact g_iret h hr hk dL_evict_20 (by omega) (by omega) ⟨rfl, rfl⟩
set_option maxRecDepth 100000 in
set_option maxHeartbeats 400000 in
theorem w_evict_s (l : Launch) (E : gE) (x : St) (hlt : l.stackTraces = false) (v : Vw) (hV : VW x v [] []) (i : Nat) (j : Nat) (hi : i < 4) (hj : j < 16) (hh : ¬ nI (r_X0_holds v i j) = 0) (he : ¬ (¬ v.x.FR i 0 = nI j ∧ nI (r_X0_lacksVictimRoomFor v i j) = 0)) : Ct l yL_evict wsL_evict { frames := 15, cells := 1, slots := 6, locals := 600 } E [.ref (aD E), .int (nI i), .int (nI j), .ref (aO E)] x (fun u y => u = some (.int (nI 3)) ∧ y = x) 1 6 := by
  refine CtW.of (cc := cL_evict) (nL := 5) (ret := (some .int)) (hh := [(0, 10, 13, 13), (0, 10, 17, 29), (0, 10, 21, 17)]) (by decide) rfl (Nat.le_of_ble_eq_true rfl) ?_
  intro p e s m args below meth c h hr hk htab
  refine g_lvs (lv' := [(0, _), (1, _), (2, _), (3, _)]) rfl ?_
  refine g_aload_n h 3 dL_evict_0 rfl rfl ?_
  refine g_iconst (v := nI 0) h dL_evict_1 (by decide) ?_
  refine g_aload_n h 0 dL_evict_2 rfl rfl ?_
  refine g_iload_n h 1 dL_evict_3 rfl rfl ?_
  refine g_iload_n h 2 dL_evict_4 rfl rfl ?_
  refine g_callVC (As := [.int (nI i), .int (nI j)]) (C := RX5) (hh := [(0, 10, 13, 13), (0, 10, 17, 29), (0, 10, 21, 17)]) h htab 2 [(⟨0, 10, 13, 13⟩ : ExceptionTableEntry), (⟨0, 10, 17, 29⟩ : ExceptionTableEntry)] (⟨0, 10, 21, 17⟩ : ExceptionTableEntry) [] (t_X5_evict_s l E _ hlt v [] hV i j hi hj hh he) rfl gL_evict_X5_evict rfl rfl rfl rfl (by decide +kernel) ⟨Nat.le_of_ble_eq_true rfl, Nat.le_of_ble_eq_true rfl⟩ (wat_D E _) rfl rfl dL_evict_5 ⟨by dsimp only; omega, by dsimp only; omega⟩ (Nat.le_of_ble_eq_true rfl) rfl (fun y hy => by rcases List.mem_cons.mp hy with rfl | hy; exact ⟨by decide, "java/lang/IndexOutOfBoundsException", by decide +kernel, by decide⟩; rw [List.mem_singleton.mp hy]; exact ⟨by decide, "java/util/NoSuchElementException", by decide +kernel, by decide⟩) (by decide) (by decide) (by decide +kernel) (by decide) (fun q => ?_)
  refine g_astore (lv' := [(0, _), (1, _), (2, _), (3, _), (4, _)]) h [1, 2, 3, 4, 0] dL_evict_21 (by decide) rfl ?_
  refine g_iconst (v := nI 3) h dL_evict_23 (by decide) ?_
  exact g_iret h hr hk dL_evict_24 (by omega) (by omega) ⟨rfl, rfl⟩
set_option maxRecDepth 100000 in
set_option maxHeartbeats 400000 in
theorem w_state_bc (l : Launch) (E : gE) (x : St) (hlt : l.stackTraces = false) (v : Vw) (hV : VW x v [] []) (w : Int32) (w2 : Int32) (hb : badC w) : Ct l yL_state wsL_state { frames := 15, cells := 1, slots := 6, locals := 600 } E [.ref (aD E), .int w, .int w2, .ref (aO E)] x (fun u y => u = some (.int (nI 1)) ∧ y = x) 1 6 := by
  refine CtW.of (cc := cL_state) (nL := 5) (ret := (some .int)) (hh := [(0, 10, 13, 13)]) (by decide) rfl (Nat.le_of_ble_eq_true rfl) ?_
  intro p e s m args below meth c h hr hk htab
  refine g_lvs (lv' := [(0, _), (1, _), (2, _), (3, _)]) rfl ?_
  refine g_aload_n h 3 dL_state_0 rfl rfl ?_
  refine g_iconst (v := nI 0) h dL_state_1 (by decide) ?_
  refine g_aload_n h 0 dL_state_2 rfl rfl ?_
  refine g_iload_n h 1 dL_state_3 rfl rfl ?_
  refine g_iload_n h 2 dL_state_4 rfl rfl ?_
  refine g_callVC (As := [.int _, .int _]) (C := RX5) (hh := [(0, 10, 13, 13)]) h htab 2 [] (⟨0, 10, 13, 13⟩ : ExceptionTableEntry) [] (t_X5_state_bc l E _ hlt w w2 hb) rfl gL_state_X5_state rfl rfl rfl rfl (by decide +kernel) ⟨Nat.le_of_ble_eq_true rfl, Nat.le_of_ble_eq_true rfl⟩ (wat_D E _) rfl rfl dL_state_5 ⟨by dsimp only; omega, by dsimp only; omega⟩ (Nat.le_of_ble_eq_true rfl) rfl (fun _ hy => nomatch hy) (by decide) (by decide) (by decide +kernel) (by decide) (fun q => ?_)
  refine g_astore (lv' := [(0, _), (1, _), (2, _), (3, _), (4, _)]) h [1, 2, 3, 4, 0] dL_state_13 (by decide) rfl ?_
  refine g_iconst (v := nI 1) h dL_state_15 (by decide) ?_
  exact g_iret h hr hk dL_state_16 (by omega) (by omega) ⟨rfl, rfl⟩
set_option maxRecDepth 100000 in
set_option maxHeartbeats 400000 in
theorem w_state_bl (l : Launch) (E : gE) (x : St) (hlt : l.stackTraces = false) (v : Vw) (hV : VW x v [] []) (i : Nat) (w : Int32) (hi : i < 4) (hb : badL w) : Ct l yL_state wsL_state { frames := 15, cells := 1, slots := 6, locals := 600 } E [.ref (aD E), .int (nI i), .int w, .ref (aO E)] x (fun u y => u = some (.int (nI 1)) ∧ y = x) 1 6 := by
  refine CtW.of (cc := cL_state) (nL := 5) (ret := (some .int)) (hh := [(0, 10, 13, 13)]) (by decide) rfl (Nat.le_of_ble_eq_true rfl) ?_
  intro p e s m args below meth c h hr hk htab
  refine g_lvs (lv' := [(0, _), (1, _), (2, _), (3, _)]) rfl ?_
  refine g_aload_n h 3 dL_state_0 rfl rfl ?_
  refine g_iconst (v := nI 0) h dL_state_1 (by decide) ?_
  refine g_aload_n h 0 dL_state_2 rfl rfl ?_
  refine g_iload_n h 1 dL_state_3 rfl rfl ?_
  refine g_iload_n h 2 dL_state_4 rfl rfl ?_
  refine g_callVC (As := [.int (nI i), .int _]) (C := RX5) (hh := [(0, 10, 13, 13)]) h htab 2 [] (⟨0, 10, 13, 13⟩ : ExceptionTableEntry) [] (t_X5_state_bl l E _ hlt i w hi hb) rfl gL_state_X5_state rfl rfl rfl rfl (by decide +kernel) ⟨Nat.le_of_ble_eq_true rfl, Nat.le_of_ble_eq_true rfl⟩ (wat_D E _) rfl rfl dL_state_5 ⟨by dsimp only; omega, by dsimp only; omega⟩ (Nat.le_of_ble_eq_true rfl) rfl (fun _ hy => nomatch hy) (by decide) (by decide) (by decide +kernel) (by decide) (fun q => ?_)
  refine g_astore (lv' := [(0, _), (1, _), (2, _), (3, _), (4, _)]) h [1, 2, 3, 4, 0] dL_state_13 (by decide) rfl ?_
  refine g_iconst (v := nI 1) h dL_state_15 (by decide) ?_
  exact g_iret h hr hk dL_state_16 (by omega) (by omega) ⟨rfl, rfl⟩
set_option maxRecDepth 100000 in
set_option maxHeartbeats 400000 in
theorem w_value_bc (l : Launch) (E : gE) (x : St) (hlt : l.stackTraces = false) (v : Vw) (hV : VW x v [] []) (w : Int32) (w2 : Int32) (hb : badC w) : Ct l yL_value wsL_value { frames := 15, cells := 1, slots := 6, locals := 600 } E [.ref (aD E), .int w, .int w2, .ref (aO E)] x (fun u y => u = some (.int (nI 1)) ∧ y = x) 1 6 := by
  refine CtW.of (cc := cL_value) (nL := 5) (ret := (some .int)) (hh := [(0, 10, 13, 13), (0, 10, 17, 29)]) (by decide) rfl (Nat.le_of_ble_eq_true rfl) ?_
  intro p e s m args below meth c h hr hk htab
  refine g_lvs (lv' := [(0, _), (1, _), (2, _), (3, _)]) rfl ?_
  refine g_aload_n h 3 dL_value_0 rfl rfl ?_
  refine g_iconst (v := nI 0) h dL_value_1 (by decide) ?_
  refine g_aload_n h 0 dL_value_2 rfl rfl ?_
  refine g_iload_n h 1 dL_value_3 rfl rfl ?_
  refine g_iload_n h 2 dL_value_4 rfl rfl ?_
  refine g_callVC (As := [.int _, .int _]) (C := RX5) (hh := [(0, 10, 13, 13), (0, 10, 17, 29)]) h htab 2 [] (⟨0, 10, 13, 13⟩ : ExceptionTableEntry) [(⟨0, 10, 17, 29⟩ : ExceptionTableEntry)] (t_X5_value_bc l E _ hlt w w2 hb) rfl gL_value_X5_value rfl rfl rfl rfl (by decide +kernel) ⟨Nat.le_of_ble_eq_true rfl, Nat.le_of_ble_eq_true rfl⟩ (wat_D E _) rfl rfl dL_value_5 ⟨by dsimp only; omega, by dsimp only; omega⟩ (Nat.le_of_ble_eq_true rfl) rfl (fun _ hy => nomatch hy) (by decide) (by decide) (by decide +kernel) (by decide) (fun q => ?_)
  refine g_astore (lv' := [(0, _), (1, _), (2, _), (3, _), (4, _)]) h [1, 2, 3, 4, 0] dL_value_13 (by decide) rfl ?_
  refine g_iconst (v := nI 1) h dL_value_15 (by decide) ?_
  exact g_iret h hr hk dL_value_16 (by omega) (by omega) ⟨rfl, rfl⟩
set_option maxRecDepth 100000 in
set_option maxHeartbeats 400000 in
theorem w_value_bl (l : Launch) (E : gE) (x : St) (hlt : l.stackTraces = false) (v : Vw) (hV : VW x v [] []) (i : Nat) (w : Int32) (hi : i < 4) (hb : badL w) : Ct l yL_value wsL_value { frames := 15, cells := 1, slots := 6, locals := 600 } E [.ref (aD E), .int (nI i), .int w, .ref (aO E)] x (fun u y => u = some (.int (nI 1)) ∧ y = x) 1 6 := by
  refine CtW.of (cc := cL_value) (nL := 5) (ret := (some .int)) (hh := [(0, 10, 13, 13), (0, 10, 17, 29)]) (by decide) rfl (Nat.le_of_ble_eq_true rfl) ?_
  intro p e s m args below meth c h hr hk htab
  refine g_lvs (lv' := [(0, _), (1, _), (2, _), (3, _)]) rfl ?_
  refine g_aload_n h 3 dL_value_0 rfl rfl ?_
  refine g_iconst (v := nI 0) h dL_value_1 (by decide) ?_
  refine g_aload_n h 0 dL_value_2 rfl rfl ?_
  refine g_iload_n h 1 dL_value_3 rfl rfl ?_
  refine g_iload_n h 2 dL_value_4 rfl rfl ?_
  refine g_callVC (As := [.int (nI i), .int _]) (C := RX5) (hh := [(0, 10, 13, 13), (0, 10, 17, 29)]) h htab 2 [] (⟨0, 10, 13, 13⟩ : ExceptionTableEntry) [(⟨0, 10, 17, 29⟩ : ExceptionTableEntry)] (t_X5_value_bl l E _ hlt i w hi hb) rfl gL_value_X5_value rfl rfl rfl rfl (by decide +kernel) ⟨Nat.le_of_ble_eq_true rfl, Nat.le_of_ble_eq_true rfl⟩ (wat_D E _) rfl rfl dL_value_5 ⟨by dsimp only; omega, by dsimp only; omega⟩ (Nat.le_of_ble_eq_true rfl) rfl (fun _ hy => nomatch hy) (by decide) (by decide) (by decide +kernel) (by decide) (fun q => ?_)
  refine g_astore (lv' := [(0, _), (1, _), (2, _), (3, _), (4, _)]) h [1, 2, 3, 4, 0] dL_value_13 (by decide) rfl ?_
  refine g_iconst (v := nI 1) h dL_value_15 (by decide) ?_
  exact g_iret h hr hk dL_value_16 (by omega) (by omega) ⟨rfl, rfl⟩
set_option maxRecDepth 100000 in
set_option maxHeartbeats 400000 in
theorem w_value_t (l : Launch) (E : gE) (x : St) (hlt : l.stackTraces = false) (v : Vw) (hV : VW x v [] []) (i : Nat) (j : Nat) (hi : i < 4) (hj : j < 16) (hh : nI (r_X0_holds v i j) = 0) : Ct l yL_value wsL_value { frames := 15, cells := 1, slots := 6, locals := 600 } E [.ref (aD E), .int (nI i), .int (nI j), .ref (aO E)] x (fun u y => u = some (.int (nI 2)) ∧ y = x) 1 6 := by
  refine CtW.of (cc := cL_value) (nL := 5) (ret := (some .int)) (hh := [(0, 10, 13, 13), (0, 10, 17, 29)]) (by decide) rfl (Nat.le_of_ble_eq_true rfl) ?_
  intro p e s m args below meth c h hr hk htab
  refine g_lvs (lv' := [(0, _), (1, _), (2, _), (3, _)]) rfl ?_
  refine g_aload_n h 3 dL_value_0 rfl rfl ?_
  refine g_iconst (v := nI 0) h dL_value_1 (by decide) ?_
  refine g_aload_n h 0 dL_value_2 rfl rfl ?_
  refine g_iload_n h 1 dL_value_3 rfl rfl ?_
  refine g_iload_n h 2 dL_value_4 rfl rfl ?_
  refine g_callVC (As := [.int (nI i), .int (nI j)]) (C := RX5) (hh := [(0, 10, 13, 13), (0, 10, 17, 29)]) h htab 2 [(⟨0, 10, 13, 13⟩ : ExceptionTableEntry)] (⟨0, 10, 17, 29⟩ : ExceptionTableEntry) [] (t_X5_value_t l E _ hlt v [] hV i j hi hj hh) rfl gL_value_X5_value rfl rfl rfl rfl (by decide +kernel) ⟨Nat.le_of_ble_eq_true rfl, Nat.le_of_ble_eq_true rfl⟩ (wat_D E _) rfl rfl dL_value_5 ⟨by dsimp only; omega, by dsimp only; omega⟩ (Nat.le_of_ble_eq_true rfl) rfl (fun y hy => by rw [List.mem_singleton.mp hy]; exact ⟨by decide, "java/lang/IndexOutOfBoundsException", by decide +kernel, by decide⟩) (by decide) (by decide) (by decide +kernel) (by decide) (fun q => ?_)
  refine g_astore (lv' := [(0, _), (1, _), (2, _), (3, _), (4, _)]) h [1, 2, 3, 4, 0] dL_value_17 (by decide) rfl ?_
  refine g_iconst (v := nI 2) h dL_value_19 (by decide) ?_
  exact g_iret h hr hk dL_value_20 (by omega) (by omega) ⟨rfl, rfl⟩
set_option maxRecDepth 100000 in
set_option maxHeartbeats 400000 in
theorem w_victimValue_bc (l : Launch) (E : gE) (x : St) (hlt : l.stackTraces = false) (v : Vw) (hV : VW x v [] []) (w : Int32) (w2 : Int32) (hb : badC w) : Ct l yL_victimValue wsL_victimValue { frames := 15, cells := 1, slots := 6, locals := 600 } E [.ref (aD E), .int w, .int w2, .ref (aO E)] x (fun u y => u = some (.int (nI 1)) ∧ y = x) 1 6 := by
  refine CtW.of (cc := cL_victimValue) (nL := 5) (ret := (some .int)) (hh := [(0, 10, 13, 13)]) (by decide) rfl (Nat.le_of_ble_eq_true rfl) ?_
  intro p e s m args below meth c h hr hk htab
  refine g_lvs (lv' := [(0, _), (1, _), (2, _), (3, _)]) rfl ?_
  refine g_aload_n h 3 dL_victimValue_0 rfl rfl ?_
  refine g_iconst (v := nI 0) h dL_victimValue_1 (by decide) ?_
  refine g_aload_n h 0 dL_victimValue_2 rfl rfl ?_
  refine g_iload_n h 1 dL_victimValue_3 rfl rfl ?_
  refine g_iload_n h 2 dL_victimValue_4 rfl rfl ?_
  refine g_callVC (As := [.int _, .int _]) (C := RX5) (hh := [(0, 10, 13, 13)]) h htab 2 [] (⟨0, 10, 13, 13⟩ : ExceptionTableEntry) [] (t_X5_victimValue_bc l E _ hlt w w2 hb) rfl gL_victimValue_X5_victimValue rfl rfl rfl rfl (by decide +kernel) ⟨Nat.le_of_ble_eq_true rfl, Nat.le_of_ble_eq_true rfl⟩ (wat_D E _) rfl rfl dL_victimValue_5 ⟨by dsimp only; omega, by dsimp only; omega⟩ (Nat.le_of_ble_eq_true rfl) rfl (fun _ hy => nomatch hy) (by decide) (by decide) (by decide +kernel) (by decide) (fun q => ?_)
  refine g_astore (lv' := [(0, _), (1, _), (2, _), (3, _), (4, _)]) h [1, 2, 3, 4, 0] dL_victimValue_13 (by decide) rfl ?_
  refine g_iconst (v := nI 1) h dL_victimValue_15 (by decide) ?_
  exact g_iret h hr hk dL_victimValue_16 (by omega) (by omega) ⟨rfl, rfl⟩
set_option maxRecDepth 100000 in
set_option maxHeartbeats 400000 in
theorem w_victimValue_bl (l : Launch) (E : gE) (x : St) (hlt : l.stackTraces = false) (v : Vw) (hV : VW x v [] []) (i : Nat) (w : Int32) (hi : i < 4) (hb : badL w) : Ct l yL_victimValue wsL_victimValue { frames := 15, cells := 1, slots := 6, locals := 600 } E [.ref (aD E), .int (nI i), .int w, .ref (aO E)] x (fun u y => u = some (.int (nI 1)) ∧ y = x) 1 6 := by
  refine CtW.of (cc := cL_victimValue) (nL := 5) (ret := (some .int)) (hh := [(0, 10, 13, 13)]) (by decide) rfl (Nat.le_of_ble_eq_true rfl) ?_
  intro p e s m args below meth c h hr hk htab
  refine g_lvs (lv' := [(0, _), (1, _), (2, _), (3, _)]) rfl ?_
  refine g_aload_n h 3 dL_victimValue_0 rfl rfl ?_
  refine g_iconst (v := nI 0) h dL_victimValue_1 (by decide) ?_
  refine g_aload_n h 0 dL_victimValue_2 rfl rfl ?_
  refine g_iload_n h 1 dL_victimValue_3 rfl rfl ?_
  refine g_iload_n h 2 dL_victimValue_4 rfl rfl ?_
  refine g_callVC (As := [.int (nI i), .int _]) (C := RX5) (hh := [(0, 10, 13, 13)]) h htab 2 [] (⟨0, 10, 13, 13⟩ : ExceptionTableEntry) [] (t_X5_victimValue_bl l E _ hlt i w hi hb) rfl gL_victimValue_X5_victimValue rfl rfl rfl rfl (by decide +kernel) ⟨Nat.le_of_ble_eq_true rfl, Nat.le_of_ble_eq_true rfl⟩ (wat_D E _) rfl rfl dL_victimValue_5 ⟨by dsimp only; omega, by dsimp only; omega⟩ (Nat.le_of_ble_eq_true rfl) rfl (fun _ hy => nomatch hy) (by decide) (by decide) (by decide +kernel) (by decide) (fun q => ?_)
  refine g_astore (lv' := [(0, _), (1, _), (2, _), (3, _), (4, _)]) h [1, 2, 3, 4, 0] dL_victimValue_13 (by decide) rfl ?_
  refine g_iconst (v := nI 1) h dL_victimValue_15 (by decide) ?_
  exact g_iret h hr hk dL_victimValue_16 (by omega) (by omega) ⟨rfl, rfl⟩
set_option maxRecDepth 100000 in
set_option maxHeartbeats 400000 in
theorem w_openLine_bc (l : Launch) (E : gE) (x : St) (hlt : l.stackTraces = false) (v : Vw) (hV : VW x v [] []) (w : Int32) (hb : badC w) : Ct l yL_openLine wsL_openLine { frames := 15, cells := 1, slots := 6, locals := 600 } E [.ref (aD E), .int w, .ref (aO E)] x (fun u y => u = some (.int (nI 1)) ∧ y = x) 1 6 := by
  refine CtW.of (cc := cL_openLine) (nL := 4) (ret := (some .int)) (hh := [(0, 9, 12, 13)]) (by decide) rfl (Nat.le_of_ble_eq_true rfl) ?_
  intro p e s m args below meth c h hr hk htab
  refine g_lvs (lv' := [(0, _), (1, _), (2, _)]) rfl ?_
  refine g_aload_n h 2 dL_openLine_0 rfl rfl ?_
  refine g_iconst (v := nI 0) h dL_openLine_1 (by decide) ?_
  refine g_aload_n h 0 dL_openLine_2 rfl rfl ?_
  refine g_iload_n h 1 dL_openLine_3 rfl rfl ?_
  refine g_callVC (As := [.int _]) (C := RX5) (hh := [(0, 9, 12, 13)]) h htab 1 [] (⟨0, 9, 12, 13⟩ : ExceptionTableEntry) [] (t_X5_openLine_bc l E _ hlt w hb) rfl gL_openLine_X5_openLine rfl rfl rfl rfl (by decide +kernel) ⟨Nat.le_of_ble_eq_true rfl, Nat.le_of_ble_eq_true rfl⟩ (wat_D E _) rfl rfl dL_openLine_4 ⟨by dsimp only; omega, by dsimp only; omega⟩ (Nat.le_of_ble_eq_true rfl) rfl (fun _ hy => nomatch hy) (by decide) (by decide) (by decide +kernel) (by decide) (fun q => ?_)
  refine g_astore_n (lv' := [(0, _), (1, _), (2, _), (3, _)]) h [1, 2, 3, 0] dL_openLine_12 rfl (by decide) rfl ?_
  refine g_iconst (v := nI 1) h dL_openLine_13 (by decide) ?_
  exact g_iret h hr hk dL_openLine_14 (by omega) (by omega) ⟨rfl, rfl⟩
set_option maxRecDepth 100000 in
set_option maxHeartbeats 400000 in
theorem w_latestRead_bc (l : Launch) (E : gE) (x : St) (hlt : l.stackTraces = false) (v : Vw) (hV : VW x v [] []) (w : Int32) (hb : badC w) : Ct l yL_latestRead wsL_latestRead { frames := 15, cells := 1, slots := 6, locals := 600 } E [.ref (aD E), .int w, .ref (aO E)] x (fun u y => u = some (.int (nI 1)) ∧ y = x) 1 6 := by
  refine CtW.of (cc := cL_latestRead) (nL := 4) (ret := (some .int)) (hh := [(0, 9, 12, 13)]) (by decide) rfl (Nat.le_of_ble_eq_true rfl) ?_
  intro p e s m args below meth c h hr hk htab
  refine g_lvs (lv' := [(0, _), (1, _), (2, _)]) rfl ?_
  refine g_aload_n h 2 dL_latestRead_0 rfl rfl ?_
  refine g_iconst (v := nI 0) h dL_latestRead_1 (by decide) ?_
  refine g_aload_n h 0 dL_latestRead_2 rfl rfl ?_
  refine g_iload_n h 1 dL_latestRead_3 rfl rfl ?_
  refine g_callVC (As := [.int _]) (C := RX5) (hh := [(0, 9, 12, 13)]) h htab 1 [] (⟨0, 9, 12, 13⟩ : ExceptionTableEntry) [] (t_X5_latestRead_bc l E _ hlt w hb) rfl gL_latestRead_X5_latestRead rfl rfl rfl rfl (by decide +kernel) ⟨Nat.le_of_ble_eq_true rfl, Nat.le_of_ble_eq_true rfl⟩ (wat_D E _) rfl rfl dL_latestRead_4 ⟨by dsimp only; omega, by dsimp only; omega⟩ (Nat.le_of_ble_eq_true rfl) rfl (fun _ hy => nomatch hy) (by decide) (by decide) (by decide +kernel) (by decide) (fun q => ?_)
  refine g_astore_n (lv' := [(0, _), (1, _), (2, _), (3, _)]) h [1, 2, 3, 0] dL_latestRead_12 rfl (by decide) rfl ?_
  refine g_iconst (v := nI 1) h dL_latestRead_13 (by decide) ?_
  exact g_iret h hr hk dL_latestRead_14 (by omega) (by omega) ⟨rfl, rfl⟩
set_option maxRecDepth 100000 in
set_option maxHeartbeats 400000 in
theorem w_lineAt_bc (l : Launch) (E : gE) (x : St) (hlt : l.stackTraces = false) (v : Vw) (hV : VW x v [] []) (w : Int32) (w2 : Int32) (hb : badC w) : Ct l yL_lineAt wsL_lineAt { frames := 15, cells := 1, slots := 6, locals := 600 } E [.ref (aD E), .int w, .int w2, .ref (aO E)] x (fun u y => u = some (.int (nI 1)) ∧ y = x) 1 6 := by
  refine CtW.of (cc := cL_lineAt) (nL := 5) (ret := (some .int)) (hh := [(0, 10, 13, 13), (0, 10, 17, 29)]) (by decide) rfl (Nat.le_of_ble_eq_true rfl) ?_
  intro p e s m args below meth c h hr hk htab
  refine g_lvs (lv' := [(0, _), (1, _), (2, _), (3, _)]) rfl ?_
  refine g_aload_n h 3 dL_lineAt_0 rfl rfl ?_
  refine g_iconst (v := nI 0) h dL_lineAt_1 (by decide) ?_
  refine g_aload_n h 0 dL_lineAt_2 rfl rfl ?_
  refine g_iload_n h 1 dL_lineAt_3 rfl rfl ?_
  refine g_iload_n h 2 dL_lineAt_4 rfl rfl ?_
  refine g_callVC (As := [.int _, .int _]) (C := RX5) (hh := [(0, 10, 13, 13), (0, 10, 17, 29)]) h htab 2 [] (⟨0, 10, 13, 13⟩ : ExceptionTableEntry) [(⟨0, 10, 17, 29⟩ : ExceptionTableEntry)] (t_X5_lineAt_bc l E _ hlt w w2 hb) rfl gL_lineAt_X5_lineAt rfl rfl rfl rfl (by decide +kernel) ⟨Nat.le_of_ble_eq_true rfl, Nat.le_of_ble_eq_true rfl⟩ (wat_D E _) rfl rfl dL_lineAt_5 ⟨by dsimp only; omega, by dsimp only; omega⟩ (Nat.le_of_ble_eq_true rfl) rfl (fun _ hy => nomatch hy) (by decide) (by decide) (by decide +kernel) (by decide) (fun q => ?_)
  refine g_astore (lv' := [(0, _), (1, _), (2, _), (3, _), (4, _)]) h [1, 2, 3, 4, 0] dL_lineAt_13 (by decide) rfl ?_
  refine g_iconst (v := nI 1) h dL_lineAt_15 (by decide) ?_
  exact g_iret h hr hk dL_lineAt_16 (by omega) (by omega) ⟨rfl, rfl⟩
set_option maxRecDepth 100000 in
set_option maxHeartbeats 400000 in
theorem w_lineAt_t (l : Launch) (E : gE) (x : St) (hlt : l.stackTraces = false) (v : Vw) (hV : VW x v [] []) (i : Nat) (w : Int32) (hi : i < 4) (hb : w < 0 ∨ v.x.FC i 7 ≤ w) : Ct l yL_lineAt wsL_lineAt { frames := 15, cells := 1, slots := 6, locals := 600 } E [.ref (aD E), .int (nI i), .int w, .ref (aO E)] x (fun u y => u = some (.int (nI 2)) ∧ y = x) 1 6 := by
  refine CtW.of (cc := cL_lineAt) (nL := 5) (ret := (some .int)) (hh := [(0, 10, 13, 13), (0, 10, 17, 29)]) (by decide) rfl (Nat.le_of_ble_eq_true rfl) ?_
  intro p e s m args below meth c h hr hk htab
  refine g_lvs (lv' := [(0, _), (1, _), (2, _), (3, _)]) rfl ?_
  refine g_aload_n h 3 dL_lineAt_0 rfl rfl ?_
  refine g_iconst (v := nI 0) h dL_lineAt_1 (by decide) ?_
  refine g_aload_n h 0 dL_lineAt_2 rfl rfl ?_
  refine g_iload_n h 1 dL_lineAt_3 rfl rfl ?_
  refine g_iload_n h 2 dL_lineAt_4 rfl rfl ?_
  refine g_callVC (As := [.int (nI i), .int _]) (C := RX5) (hh := [(0, 10, 13, 13), (0, 10, 17, 29)]) h htab 2 [(⟨0, 10, 13, 13⟩ : ExceptionTableEntry)] (⟨0, 10, 17, 29⟩ : ExceptionTableEntry) [] (t_X5_lineAt_t l E _ hlt v [] hV i w hi hb) rfl gL_lineAt_X5_lineAt rfl rfl rfl rfl (by decide +kernel) ⟨Nat.le_of_ble_eq_true rfl, Nat.le_of_ble_eq_true rfl⟩ (wat_D E _) rfl rfl dL_lineAt_5 ⟨by dsimp only; omega, by dsimp only; omega⟩ (Nat.le_of_ble_eq_true rfl) rfl (fun y hy => by rw [List.mem_singleton.mp hy]; exact ⟨by decide, "java/lang/IndexOutOfBoundsException", by decide +kernel, by decide⟩) (by decide) (by decide) (by decide +kernel) (by decide) (fun q => ?_)
  refine g_astore (lv' := [(0, _), (1, _), (2, _), (3, _), (4, _)]) h [1, 2, 3, 4, 0] dL_lineAt_17 (by decide) rfl ?_
  refine g_iconst (v := nI 2) h dL_lineAt_19 (by decide) ?_
  exact g_iret h hr hk dL_lineAt_20 (by omega) (by omega) ⟨rfl, rfl⟩
set_option maxRecDepth 100000 in
set_option maxHeartbeats 400000 in
theorem w_owner_bl (l : Launch) (E : gE) (x : St) (hlt : l.stackTraces = false) (v : Vw) (hV : VW x v [] []) (w : Int32) (hb : badL w) : Ct l yL_owner wsL_owner { frames := 15, cells := 1, slots := 6, locals := 600 } E [.ref (aD E), .int w, .ref (aO E)] x (fun u y => u = some (.int (nI 1)) ∧ y = x) 1 6 := by
  refine CtW.of (cc := cL_owner) (nL := 4) (ret := (some .int)) (hh := [(0, 9, 12, 13)]) (by decide) rfl (Nat.le_of_ble_eq_true rfl) ?_
  intro p e s m args below meth c h hr hk htab
  refine g_lvs (lv' := [(0, _), (1, _), (2, _)]) rfl ?_
  refine g_aload_n h 2 dL_owner_0 rfl rfl ?_
  refine g_iconst (v := nI 0) h dL_owner_1 (by decide) ?_
  refine g_aload_n h 0 dL_owner_2 rfl rfl ?_
  refine g_iload_n h 1 dL_owner_3 rfl rfl ?_
  refine g_callVC (As := [.int _]) (C := RX5) (hh := [(0, 9, 12, 13)]) h htab 1 [] (⟨0, 9, 12, 13⟩ : ExceptionTableEntry) [] (t_X5_owner_bl l E _ hlt w hb) rfl gL_owner_X5_owner rfl rfl rfl rfl (by decide +kernel) ⟨Nat.le_of_ble_eq_true rfl, Nat.le_of_ble_eq_true rfl⟩ (wat_D E _) rfl rfl dL_owner_4 ⟨by dsimp only; omega, by dsimp only; omega⟩ (Nat.le_of_ble_eq_true rfl) rfl (fun _ hy => nomatch hy) (by decide) (by decide) (by decide +kernel) (by decide) (fun q => ?_)
  refine g_astore_n (lv' := [(0, _), (1, _), (2, _), (3, _)]) h [1, 2, 3, 0] dL_owner_12 rfl (by decide) rfl ?_
  refine g_iconst (v := nI 1) h dL_owner_13 (by decide) ?_
  exact g_iret h hr hk dL_owner_14 (by omega) (by omega) ⟨rfl, rfl⟩
set_option maxRecDepth 100000 in
set_option maxHeartbeats 400000 in
theorem w_sharers_bl (l : Launch) (E : gE) (x : St) (hlt : l.stackTraces = false) (v : Vw) (hV : VW x v [] []) (w : Int32) (hb : badL w) : Ct l yL_sharers wsL_sharers { frames := 15, cells := 1, slots := 6, locals := 600 } E [.ref (aD E), .int w, .ref (aO E)] x (fun u y => u = some (.int (nI 1)) ∧ y = x) 1 6 := by
  refine CtW.of (cc := cL_sharers) (nL := 4) (ret := (some .int)) (hh := [(0, 9, 12, 13)]) (by decide) rfl (Nat.le_of_ble_eq_true rfl) ?_
  intro p e s m args below meth c h hr hk htab
  refine g_lvs (lv' := [(0, _), (1, _), (2, _)]) rfl ?_
  refine g_aload_n h 2 dL_sharers_0 rfl rfl ?_
  refine g_iconst (v := nI 0) h dL_sharers_1 (by decide) ?_
  refine g_aload_n h 0 dL_sharers_2 rfl rfl ?_
  refine g_iload_n h 1 dL_sharers_3 rfl rfl ?_
  refine g_callVC (As := [.int _]) (C := RX5) (hh := [(0, 9, 12, 13)]) h htab 1 [] (⟨0, 9, 12, 13⟩ : ExceptionTableEntry) [] (t_X5_sharers_bl l E _ hlt w hb) rfl gL_sharers_X5_sharers rfl rfl rfl rfl (by decide +kernel) ⟨Nat.le_of_ble_eq_true rfl, Nat.le_of_ble_eq_true rfl⟩ (wat_D E _) rfl rfl dL_sharers_4 ⟨by dsimp only; omega, by dsimp only; omega⟩ (Nat.le_of_ble_eq_true rfl) rfl (fun _ hy => nomatch hy) (by decide) (by decide) (by decide +kernel) (by decide) (fun q => ?_)
  refine g_astore_n (lv' := [(0, _), (1, _), (2, _), (3, _)]) h [1, 2, 3, 0] dL_sharers_12 rfl (by decide) rfl ?_
  refine g_iconst (v := nI 1) h dL_sharers_13 (by decide) ?_
  exact g_iret h hr hk dL_sharers_14 (by omega) (by omega) ⟨rfl, rfl⟩
set_option maxRecDepth 100000 in
set_option maxHeartbeats 400000 in
theorem w_isBusy_bl (l : Launch) (E : gE) (x : St) (hlt : l.stackTraces = false) (v : Vw) (hV : VW x v [] []) (w : Int32) (hb : badL w) : Ct l yL_isBusy wsL_isBusy { frames := 15, cells := 1, slots := 6, locals := 600 } E [.ref (aD E), .int w, .ref (aO E)] x (fun u y => u = some (.int (nI 1)) ∧ y = x) 1 6 := by
  refine CtW.of (cc := cL_isBusy) (nL := 4) (ret := (some .int)) (hh := [(0, 16, 19, 13)]) (by decide) rfl (Nat.le_of_ble_eq_true rfl) ?_
  intro p e s m args below meth c h hr hk htab
  refine g_lvs (lv' := [(0, _), (1, _), (2, _)]) rfl ?_
  refine g_aload_n h 2 dL_isBusy_0 rfl rfl ?_
  refine g_iconst (v := nI 0) h dL_isBusy_1 (by decide) ?_
  refine g_aload_n h 0 dL_isBusy_2 rfl rfl ?_
  refine g_iload_n h 1 dL_isBusy_3 rfl rfl ?_
  refine g_callVC (As := [.int _]) (C := RX5) (hh := [(0, 16, 19, 13)]) h htab 1 [] (⟨0, 16, 19, 13⟩ : ExceptionTableEntry) [] (t_X5_isBusy_bl l E _ hlt w hb) rfl gL_isBusy_X5_isBusy rfl rfl rfl rfl (by decide +kernel) ⟨Nat.le_of_ble_eq_true rfl, Nat.le_of_ble_eq_true rfl⟩ (wat_D E _) rfl rfl dL_isBusy_4 ⟨by dsimp only; omega, by dsimp only; omega⟩ (Nat.le_of_ble_eq_true rfl) rfl (fun _ hy => nomatch hy) (by decide) (by decide) (by decide +kernel) (by decide) (fun q => ?_)
  refine g_astore_n (lv' := [(0, _), (1, _), (2, _), (3, _)]) h [1, 2, 3, 0] dL_isBusy_19 rfl (by decide) rfl ?_
  refine g_iconst (v := nI 1) h dL_isBusy_20 (by decide) ?_
  exact g_iret h hr hk dL_isBusy_21 (by omega) (by omega) ⟨rfl, rfl⟩
set_option maxRecDepth 100000 in
set_option maxHeartbeats 400000 in
theorem w_queued_bl (l : Launch) (E : gE) (x : St) (hlt : l.stackTraces = false) (v : Vw) (hV : VW x v [] []) (w : Int32) (hb : badL w) : Ct l yL_queued wsL_queued { frames := 15, cells := 1, slots := 6, locals := 600 } E [.ref (aD E), .int w, .ref (aO E)] x (fun u y => u = some (.int (nI 1)) ∧ y = x) 1 6 := by
  refine CtW.of (cc := cL_queued) (nL := 4) (ret := (some .int)) (hh := [(0, 9, 12, 13)]) (by decide) rfl (Nat.le_of_ble_eq_true rfl) ?_
  intro p e s m args below meth c h hr hk htab
  refine g_lvs (lv' := [(0, _), (1, _), (2, _)]) rfl ?_
  refine g_aload_n h 2 dL_queued_0 rfl rfl ?_
  refine g_iconst (v := nI 0) h dL_queued_1 (by decide) ?_
  refine g_aload_n h 0 dL_queued_2 rfl rfl ?_
  refine g_iload_n h 1 dL_queued_3 rfl rfl ?_
  refine g_callVC (As := [.int _]) (C := RX5) (hh := [(0, 9, 12, 13)]) h htab 1 [] (⟨0, 9, 12, 13⟩ : ExceptionTableEntry) [] (t_X5_queued_bl l E _ hlt w hb) rfl gL_queued_X5_queued rfl rfl rfl rfl (by decide +kernel) ⟨Nat.le_of_ble_eq_true rfl, Nat.le_of_ble_eq_true rfl⟩ (wat_D E _) rfl rfl dL_queued_4 ⟨by dsimp only; omega, by dsimp only; omega⟩ (Nat.le_of_ble_eq_true rfl) rfl (fun _ hy => nomatch hy) (by decide) (by decide) (by decide +kernel) (by decide) (fun q => ?_)
  refine g_astore_n (lv' := [(0, _), (1, _), (2, _), (3, _)]) h [1, 2, 3, 0] dL_queued_12 rfl (by decide) rfl ?_
  refine g_iconst (v := nI 1) h dL_queued_13 (by decide) ?_
  exact g_iret h hr hk dL_queued_14 (by omega) (by omega) ⟨rfl, rfl⟩
set_option maxRecDepth 100000 in
set_option maxHeartbeats 400000 in
theorem w_memory_bl (l : Launch) (E : gE) (x : St) (hlt : l.stackTraces = false) (v : Vw) (hV : VW x v [] []) (w : Int32) (hb : badL w) : Ct l yL_memory wsL_memory { frames := 15, cells := 1, slots := 6, locals := 600 } E [.ref (aD E), .int w, .ref (aO E)] x (fun u y => u = some (.int (nI 1)) ∧ y = x) 1 6 := by
  refine CtW.of (cc := cL_memory) (nL := 4) (ret := (some .int)) (hh := [(0, 9, 12, 13)]) (by decide) rfl (Nat.le_of_ble_eq_true rfl) ?_
  intro p e s m args below meth c h hr hk htab
  refine g_lvs (lv' := [(0, _), (1, _), (2, _)]) rfl ?_
  refine g_aload_n h 2 dL_memory_0 rfl rfl ?_
  refine g_iconst (v := nI 0) h dL_memory_1 (by decide) ?_
  refine g_aload_n h 0 dL_memory_2 rfl rfl ?_
  refine g_iload_n h 1 dL_memory_3 rfl rfl ?_
  refine g_callVC (As := [.int _]) (C := RX5) (hh := [(0, 9, 12, 13)]) h htab 1 [] (⟨0, 9, 12, 13⟩ : ExceptionTableEntry) [] (t_X5_memory_bl l E _ hlt w hb) rfl gL_memory_X5_memory rfl rfl rfl rfl (by decide +kernel) ⟨Nat.le_of_ble_eq_true rfl, Nat.le_of_ble_eq_true rfl⟩ (wat_D E _) rfl rfl dL_memory_4 ⟨by dsimp only; omega, by dsimp only; omega⟩ (Nat.le_of_ble_eq_true rfl) rfl (fun _ hy => nomatch hy) (by decide) (by decide) (by decide +kernel) (by decide) (fun q => ?_)
  refine g_astore_n (lv' := [(0, _), (1, _), (2, _), (3, _)]) h [1, 2, 3, 0] dL_memory_12 rfl (by decide) rfl ?_
  refine g_iconst (v := nI 1) h dL_memory_13 (by decide) ?_
  exact g_iret h hr hk dL_memory_14 (by omega) (by omega) ⟨rfl, rfl⟩
set_option maxRecDepth 100000 in
set_option maxHeartbeats 400000 in
theorem w_messageKind_bm (l : Launch) (E : gE) (x : St) (hlt : l.stackTraces = false) (v : Vw) (hV : VW x v [] []) (w : Int32) (hb : w < 0 ∨ nI (v.q 16).length ≤ w) : Ct l yL_messageKind wsL_messageKind { frames := 15, cells := 1, slots := 6, locals := 600 } E [.ref (aD E), .int w, .ref (aO E)] x (fun u y => u = some (.int (nI 1)) ∧ y = x) 1 6 := by
  refine CtW.of (cc := cL_messageKind) (nL := 4) (ret := (some .int)) (hh := [(0, 9, 12, 13)]) (by decide) rfl (Nat.le_of_ble_eq_true rfl) ?_
  intro p e s m args below meth c h hr hk htab
  refine g_lvs (lv' := [(0, _), (1, _), (2, _)]) rfl ?_
  refine g_aload_n h 2 dL_messageKind_0 rfl rfl ?_
  refine g_iconst (v := nI 0) h dL_messageKind_1 (by decide) ?_
  refine g_aload_n h 0 dL_messageKind_2 rfl rfl ?_
  refine g_iload_n h 1 dL_messageKind_3 rfl rfl ?_
  refine g_callVC (As := [.int _]) (C := RX5) (hh := [(0, 9, 12, 13)]) h htab 1 [] (⟨0, 9, 12, 13⟩ : ExceptionTableEntry) [] (t_X5_messageKind_bm l E _ hlt v [] hV w hb) rfl gL_messageKind_X5_messageKind rfl rfl rfl rfl (by decide +kernel) ⟨Nat.le_of_ble_eq_true rfl, Nat.le_of_ble_eq_true rfl⟩ (wat_D E _) rfl rfl dL_messageKind_4 ⟨by dsimp only; omega, by dsimp only; omega⟩ (Nat.le_of_ble_eq_true rfl) rfl (fun _ hy => nomatch hy) (by decide) (by decide) (by decide +kernel) (by decide) (fun q => ?_)
  refine g_astore_n (lv' := [(0, _), (1, _), (2, _), (3, _)]) h [1, 2, 3, 0] dL_messageKind_12 rfl (by decide) rfl ?_
  refine g_iconst (v := nI 1) h dL_messageKind_13 (by decide) ?_
  exact g_iret h hr hk dL_messageKind_14 (by omega) (by omega) ⟨rfl, rfl⟩
set_option maxRecDepth 100000 in
set_option maxHeartbeats 400000 in
theorem w_messageLine_bm (l : Launch) (E : gE) (x : St) (hlt : l.stackTraces = false) (v : Vw) (hV : VW x v [] []) (w : Int32) (hb : w < 0 ∨ nI (v.q 16).length ≤ w) : Ct l yL_messageLine wsL_messageLine { frames := 15, cells := 1, slots := 6, locals := 600 } E [.ref (aD E), .int w, .ref (aO E)] x (fun u y => u = some (.int (nI 1)) ∧ y = x) 1 6 := by
  refine CtW.of (cc := cL_messageLine) (nL := 4) (ret := (some .int)) (hh := [(0, 9, 12, 13)]) (by decide) rfl (Nat.le_of_ble_eq_true rfl) ?_
  intro p e s m args below meth c h hr hk htab
  refine g_lvs (lv' := [(0, _), (1, _), (2, _)]) rfl ?_
  refine g_aload_n h 2 dL_messageLine_0 rfl rfl ?_
  refine g_iconst (v := nI 0) h dL_messageLine_1 (by decide) ?_
  refine g_aload_n h 0 dL_messageLine_2 rfl rfl ?_
  refine g_iload_n h 1 dL_messageLine_3 rfl rfl ?_
  refine g_callVC (As := [.int _]) (C := RX5) (hh := [(0, 9, 12, 13)]) h htab 1 [] (⟨0, 9, 12, 13⟩ : ExceptionTableEntry) [] (t_X5_messageLine_bm l E _ hlt v [] hV w hb) rfl gL_messageLine_X5_messageLine rfl rfl rfl rfl (by decide +kernel) ⟨Nat.le_of_ble_eq_true rfl, Nat.le_of_ble_eq_true rfl⟩ (wat_D E _) rfl rfl dL_messageLine_4 ⟨by dsimp only; omega, by dsimp only; omega⟩ (Nat.le_of_ble_eq_true rfl) rfl (fun _ hy => nomatch hy) (by decide) (by decide) (by decide +kernel) (by decide) (fun q => ?_)
  refine g_astore_n (lv' := [(0, _), (1, _), (2, _), (3, _)]) h [1, 2, 3, 0] dL_messageLine_12 rfl (by decide) rfl ?_
  refine g_iconst (v := nI 1) h dL_messageLine_13 (by decide) ?_
  exact g_iret h hr hk dL_messageLine_14 (by omega) (by omega) ⟨rfl, rfl⟩
set_option maxRecDepth 100000 in
set_option maxHeartbeats 400000 in
theorem w_messageFrom_bm (l : Launch) (E : gE) (x : St) (hlt : l.stackTraces = false) (v : Vw) (hV : VW x v [] []) (w : Int32) (hb : w < 0 ∨ nI (v.q 16).length ≤ w) : Ct l yL_messageFrom wsL_messageFrom { frames := 15, cells := 1, slots := 6, locals := 600 } E [.ref (aD E), .int w, .ref (aO E)] x (fun u y => u = some (.int (nI 1)) ∧ y = x) 1 6 := by
  refine CtW.of (cc := cL_messageFrom) (nL := 4) (ret := (some .int)) (hh := [(0, 9, 12, 13)]) (by decide) rfl (Nat.le_of_ble_eq_true rfl) ?_
  intro p e s m args below meth c h hr hk htab
  refine g_lvs (lv' := [(0, _), (1, _), (2, _)]) rfl ?_
  refine g_aload_n h 2 dL_messageFrom_0 rfl rfl ?_
  refine g_iconst (v := nI 0) h dL_messageFrom_1 (by decide) ?_
  refine g_aload_n h 0 dL_messageFrom_2 rfl rfl ?_
  refine g_iload_n h 1 dL_messageFrom_3 rfl rfl ?_
  refine g_callVC (As := [.int _]) (C := RX5) (hh := [(0, 9, 12, 13)]) h htab 1 [] (⟨0, 9, 12, 13⟩ : ExceptionTableEntry) [] (t_X5_messageFrom_bm l E _ hlt v [] hV w hb) rfl gL_messageFrom_X5_messageFrom rfl rfl rfl rfl (by decide +kernel) ⟨Nat.le_of_ble_eq_true rfl, Nat.le_of_ble_eq_true rfl⟩ (wat_D E _) rfl rfl dL_messageFrom_4 ⟨by dsimp only; omega, by dsimp only; omega⟩ (Nat.le_of_ble_eq_true rfl) rfl (fun _ hy => nomatch hy) (by decide) (by decide) (by decide +kernel) (by decide) (fun q => ?_)
  refine g_astore_n (lv' := [(0, _), (1, _), (2, _), (3, _)]) h [1, 2, 3, 0] dL_messageFrom_12 rfl (by decide) rfl ?_
  refine g_iconst (v := nI 1) h dL_messageFrom_13 (by decide) ?_
  exact g_iret h hr hk dL_messageFrom_14 (by omega) (by omega) ⟨rfl, rfl⟩
set_option maxRecDepth 100000 in
set_option maxHeartbeats 400000 in
theorem w_messageTo_bm (l : Launch) (E : gE) (x : St) (hlt : l.stackTraces = false) (v : Vw) (hV : VW x v [] []) (w : Int32) (hb : w < 0 ∨ nI (v.q 16).length ≤ w) : Ct l yL_messageTo wsL_messageTo { frames := 15, cells := 1, slots := 6, locals := 600 } E [.ref (aD E), .int w, .ref (aO E)] x (fun u y => u = some (.int (nI 1)) ∧ y = x) 1 6 := by
  refine CtW.of (cc := cL_messageTo) (nL := 4) (ret := (some .int)) (hh := [(0, 9, 12, 13)]) (by decide) rfl (Nat.le_of_ble_eq_true rfl) ?_
  intro p e s m args below meth c h hr hk htab
  refine g_lvs (lv' := [(0, _), (1, _), (2, _)]) rfl ?_
  refine g_aload_n h 2 dL_messageTo_0 rfl rfl ?_
  refine g_iconst (v := nI 0) h dL_messageTo_1 (by decide) ?_
  refine g_aload_n h 0 dL_messageTo_2 rfl rfl ?_
  refine g_iload_n h 1 dL_messageTo_3 rfl rfl ?_
  refine g_callVC (As := [.int _]) (C := RX5) (hh := [(0, 9, 12, 13)]) h htab 1 [] (⟨0, 9, 12, 13⟩ : ExceptionTableEntry) [] (t_X5_messageTo_bm l E _ hlt v [] hV w hb) rfl gL_messageTo_X5_messageTo rfl rfl rfl rfl (by decide +kernel) ⟨Nat.le_of_ble_eq_true rfl, Nat.le_of_ble_eq_true rfl⟩ (wat_D E _) rfl rfl dL_messageTo_4 ⟨by dsimp only; omega, by dsimp only; omega⟩ (Nat.le_of_ble_eq_true rfl) rfl (fun _ hy => nomatch hy) (by decide) (by decide) (by decide +kernel) (by decide) (fun q => ?_)
  refine g_astore_n (lv' := [(0, _), (1, _), (2, _), (3, _)]) h [1, 2, 3, 0] dL_messageTo_12 rfl (by decide) rfl ?_
  refine g_iconst (v := nI 1) h dL_messageTo_13 (by decide) ?_
  exact g_iret h hr hk dL_messageTo_14 (by omega) (by omega) ⟨rfl, rfl⟩
set_option maxRecDepth 100000 in
set_option maxHeartbeats 400000 in
theorem w_hits_bc (l : Launch) (E : gE) (x : St) (hlt : l.stackTraces = false) (v : Vw) (hV : VW x v [] []) (w : Int32) (hb : badC w) : Ct l yL_hits wsL_hits { frames := 15, cells := 1, slots := 6, locals := 600 } E [.ref (aD E), .int w, .ref (aO E)] x (fun u y => u = some (.int (nI 1)) ∧ y = x) 1 6 := by
  refine CtW.of (cc := cL_hits) (nL := 4) (ret := (some .int)) (hh := [(0, 9, 12, 13)]) (by decide) rfl (Nat.le_of_ble_eq_true rfl) ?_
  intro p e s m args below meth c h hr hk htab
  refine g_lvs (lv' := [(0, _), (1, _), (2, _)]) rfl ?_
  refine g_aload_n h 2 dL_hits_0 rfl rfl ?_
  refine g_iconst (v := nI 0) h dL_hits_1 (by decide) ?_
  refine g_aload_n h 0 dL_hits_2 rfl rfl ?_
  refine g_iload_n h 1 dL_hits_3 rfl rfl ?_
  refine g_callVC (As := [.int _]) (C := RX5) (hh := [(0, 9, 12, 13)]) h htab 1 [] (⟨0, 9, 12, 13⟩ : ExceptionTableEntry) [] (t_X5_hits_bc l E _ hlt w hb) rfl gL_hits_X5_hits rfl rfl rfl rfl (by decide +kernel) ⟨Nat.le_of_ble_eq_true rfl, Nat.le_of_ble_eq_true rfl⟩ (wat_D E _) rfl rfl dL_hits_4 ⟨by dsimp only; omega, by dsimp only; omega⟩ (Nat.le_of_ble_eq_true rfl) rfl (fun _ hy => nomatch hy) (by decide) (by decide) (by decide +kernel) (by decide) (fun q => ?_)
  refine g_astore_n (lv' := [(0, _), (1, _), (2, _), (3, _)]) h [1, 2, 3, 0] dL_hits_12 rfl (by decide) rfl ?_
  refine g_iconst (v := nI 1) h dL_hits_13 (by decide) ?_
  exact g_iret h hr hk dL_hits_14 (by omega) (by omega) ⟨rfl, rfl⟩
set_option maxRecDepth 100000 in
set_option maxHeartbeats 400000 in
theorem w_misses_bc (l : Launch) (E : gE) (x : St) (hlt : l.stackTraces = false) (v : Vw) (hV : VW x v [] []) (w : Int32) (hb : badC w) : Ct l yL_misses wsL_misses { frames := 15, cells := 1, slots := 6, locals := 600 } E [.ref (aD E), .int w, .ref (aO E)] x (fun u y => u = some (.int (nI 1)) ∧ y = x) 1 6 := by
  refine CtW.of (cc := cL_misses) (nL := 4) (ret := (some .int)) (hh := [(0, 9, 12, 13)]) (by decide) rfl (Nat.le_of_ble_eq_true rfl) ?_
  intro p e s m args below meth c h hr hk htab
  refine g_lvs (lv' := [(0, _), (1, _), (2, _)]) rfl ?_
  refine g_aload_n h 2 dL_misses_0 rfl rfl ?_
  refine g_iconst (v := nI 0) h dL_misses_1 (by decide) ?_
  refine g_aload_n h 0 dL_misses_2 rfl rfl ?_
  refine g_iload_n h 1 dL_misses_3 rfl rfl ?_
  refine g_callVC (As := [.int _]) (C := RX5) (hh := [(0, 9, 12, 13)]) h htab 1 [] (⟨0, 9, 12, 13⟩ : ExceptionTableEntry) [] (t_X5_misses_bc l E _ hlt w hb) rfl gL_misses_X5_misses rfl rfl rfl rfl (by decide +kernel) ⟨Nat.le_of_ble_eq_true rfl, Nat.le_of_ble_eq_true rfl⟩ (wat_D E _) rfl rfl dL_misses_4 ⟨by dsimp only; omega, by dsimp only; omega⟩ (Nat.le_of_ble_eq_true rfl) rfl (fun _ hy => nomatch hy) (by decide) (by decide) (by decide +kernel) (by decide) (fun q => ?_)
  refine g_astore_n (lv' := [(0, _), (1, _), (2, _), (3, _)]) h [1, 2, 3, 0] dL_misses_12 rfl (by decide) rfl ?_
  refine g_iconst (v := nI 1) h dL_misses_13 (by decide) ?_
  exact g_iret h hr hk dL_misses_14 (by omega) (by omega) ⟨rfl, rfl⟩
set_option maxRecDepth 100000 in
set_option maxHeartbeats 400000 in
theorem w_isInOrder_bl (l : Launch) (E : gE) (x : St) (hlt : l.stackTraces = false) (v : Vw) (hV : VW x v [] []) (w : Int32) (hb : badL w) : Ct l yL_isInOrder wsL_isInOrder { frames := 15, cells := 1, slots := 6, locals := 600 } E [.ref (aD E), .int w, .ref (aO E)] x (fun u y => u = some (.int (nI 1)) ∧ y = x) 1 6 := by
  refine CtW.of (cc := cL_isInOrder) (nL := 4) (ret := (some .int)) (hh := [(0, 16, 19, 13)]) (by decide) rfl (Nat.le_of_ble_eq_true rfl) ?_
  intro p e s m args below meth c h hr hk htab
  refine g_lvs (lv' := [(0, _), (1, _), (2, _)]) rfl ?_
  refine g_aload_n h 2 dL_isInOrder_0 rfl rfl ?_
  refine g_iconst (v := nI 0) h dL_isInOrder_1 (by decide) ?_
  refine g_aload_n h 0 dL_isInOrder_2 rfl rfl ?_
  refine g_iload_n h 1 dL_isInOrder_3 rfl rfl ?_
  refine g_callVC (As := [.int _]) (C := RX5) (hh := [(0, 16, 19, 13)]) h htab 1 [] (⟨0, 16, 19, 13⟩ : ExceptionTableEntry) [] (t_X5_isInOrder_bl l E _ hlt w hb) rfl gL_isInOrder_X5_isInOrder rfl rfl rfl rfl (by decide +kernel) ⟨Nat.le_of_ble_eq_true rfl, Nat.le_of_ble_eq_true rfl⟩ (wat_D E _) rfl rfl dL_isInOrder_4 ⟨by dsimp only; omega, by dsimp only; omega⟩ (Nat.le_of_ble_eq_true rfl) rfl (fun _ hy => nomatch hy) (by decide) (by decide) (by decide +kernel) (by decide) (fun q => ?_)
  refine g_astore_n (lv' := [(0, _), (1, _), (2, _), (3, _)]) h [1, 2, 3, 0] dL_isInOrder_19 rfl (by decide) rfl ?_
  refine g_iconst (v := nI 1) h dL_isInOrder_20 (by decide) ?_
  exact g_iret h hr hk dL_isInOrder_21 (by omega) (by omega) ⟨rfl, rfl⟩
set_option maxRecDepth 100000 in
set_option maxHeartbeats 400000 in
theorem w_deliver_bm (l : Launch) (E : gE) (x : St) (hlt : l.stackTraces = false) (v : Vw) (hV : VW x v [] []) (w : Int32) (hb : w < 0 ∨ nI (v.q 16).length ≤ w) : Ct l yL_deliver wsL_deliver { frames := 15, cells := 1, slots := 6, locals := 600 } E [.ref (aD E), .int w, .ref (aO E)] x (fun u y => u = some (.int (nI 1)) ∧ y = x) 1 6 := by
  refine CtW.of (cc := cL_deliver) (nL := 4) (ret := (some .int)) (hh := [(0, 9, 12, 13)]) (by decide) rfl (Nat.le_of_ble_eq_true rfl) ?_
  intro p e s m args below meth c h hr hk htab
  refine g_lvs (lv' := [(0, _), (1, _), (2, _)]) rfl ?_
  refine g_aload_n h 2 dL_deliver_0 rfl rfl ?_
  refine g_iconst (v := nI 0) h dL_deliver_1 (by decide) ?_
  refine g_aload_n h 0 dL_deliver_2 rfl rfl ?_
  refine g_iload_n h 1 dL_deliver_3 rfl rfl ?_
  refine g_callVC (As := [.int _]) (C := RX5) (hh := [(0, 9, 12, 13)]) h htab 1 [] (⟨0, 9, 12, 13⟩ : ExceptionTableEntry) [] (t_X5_deliver_bm l E _ hlt v [] hV w hb) rfl gL_deliver_X5_deliver rfl rfl rfl rfl (by decide +kernel) ⟨Nat.le_of_ble_eq_true rfl, Nat.le_of_ble_eq_true rfl⟩ (wat_D E _) rfl rfl dL_deliver_4 ⟨by dsimp only; omega, by dsimp only; omega⟩ (Nat.le_of_ble_eq_true rfl) rfl (fun _ hy => nomatch hy) (by decide) (by decide) (by decide +kernel) (by decide) (fun q => ?_)
  refine g_astore_n (lv' := [(0, _), (1, _), (2, _), (3, _)]) h [1, 2, 3, 0] dL_deliver_12 rfl (by decide) rfl ?_
  refine g_iconst (v := nI 1) h dL_deliver_13 (by decide) ?_
  exact g_iret h hr hk dL_deliver_14 (by omega) (by omega) ⟨rfl, rfl⟩
set_option maxRecDepth 100000 in
set_option maxHeartbeats 400000 in
theorem w_settle_b (l : Launch) (E : gE) (x : St) (hlt : l.stackTraces = false) (v : Vw) (hV : VW x v [] []) (w : Int32) (hb : w < 0 ∨ nI 1000 < w) : Ct l yL_settle wsL_settle { frames := 15, cells := 1, slots := 6, locals := 600 } E [.ref (aD E), .int w, .ref (aO E)] x (fun u y => u = some (.int (nI 1)) ∧ y = x) 1 6 := by
  refine CtW.of (cc := cL_settle) (nL := 4) (ret := (some .int)) (hh := [(0, 9, 12, 15)]) (by decide) rfl (Nat.le_of_ble_eq_true rfl) ?_
  intro p e s m args below meth c h hr hk htab
  refine g_lvs (lv' := [(0, _), (1, _), (2, _)]) rfl ?_
  refine g_aload_n h 2 dL_settle_0 rfl rfl ?_
  refine g_iconst (v := nI 0) h dL_settle_1 (by decide) ?_
  refine g_aload_n h 0 dL_settle_2 rfl rfl ?_
  refine g_iload_n h 1 dL_settle_3 rfl rfl ?_
  refine g_callVC (As := [.int _]) (C := RX5) (hh := [(0, 9, 12, 15)]) h htab 1 [] (⟨0, 9, 12, 15⟩ : ExceptionTableEntry) [] (t_X5_settle_b l E _ hlt w hb) rfl gL_settle_X5_settle rfl rfl rfl rfl (by decide +kernel) ⟨Nat.le_of_ble_eq_true rfl, Nat.le_of_ble_eq_true rfl⟩ (wat_D E _) rfl rfl dL_settle_4 ⟨by dsimp only; omega, by dsimp only; omega⟩ (Nat.le_of_ble_eq_true rfl) rfl (fun _ hy => nomatch hy) (by decide) (by decide) (by decide +kernel) (by decide) (fun q => ?_)
  refine g_astore_n (lv' := [(0, _), (1, _), (2, _), (3, _)]) h [1, 2, 3, 0] dL_settle_12 rfl (by decide) rfl ?_
  refine g_iconst (v := nI 1) h dL_settle_13 (by decide) ?_
  exact g_iret h hr hk dL_settle_14 (by omega) (by omega) ⟨rfl, rfl⟩
