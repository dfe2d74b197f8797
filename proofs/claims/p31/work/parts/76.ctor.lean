/-! ===== constructors: lists, requests, the network, homes ===== -/
set_option maxRecDepth 100000 in
theorem k_Jxa (l : Launch) (E : gE) (w : va_W) (a : Nat) : CL l yJxa1e45_init_da8c8 wsJxa1e45_init_da8c8 { frames := 1, cells := 0, slots := 0, locals := 12 } E [.ref a] w (fun v w' => v = none ∧ w' = w) 0 0 := by
  refine CL.of (cc := cJxa1e45_init_da8c8) (nL := 1) (ret := none) (by decide) rfl (Nat.le_of_ble_eq_true rfl) ?_
  intro p e s m args below meth c h hr hk hin
  show GL _ _ _ _ _ _ _ _ _ _ _ _ _ _ _ _ w 0 [(0, .ref a)] []
  refine l_aload_n h 0 dJxa1e45_init_da8c8_0 rfl rfl ?_
  refine l_objInit h (by decide +kernel) (by decide +kernel) (by decide +kernel) (Nat.le_of_ble_eq_true rfl) (Nat.le_of_ble_eq_true rfl) dJxa1e45_init_da8c8_1 ?_
  exact l_vret h hr hk dJxa1e45_init_da8c8_4 (Nat.le_refl _) (Nat.le_refl _) ⟨rfl, rfl⟩
set_option maxRecDepth 100000 in
theorem k_Jxc (l : Launch) (E : gE) (X : va_W) (a : Nat) : CL l yJxc12de_init_da8c8 wsJxc12de_init_da8c8 { frames := 2, cells := 0, slots := 0, locals := 32 } E [.ref a] (X ++ [(a, .inr (0, [.int 0, .null, .int 0]))]) (fun v w' => v = none ∧ w' = X ++ [(a, .inr (0, [.int (nI 0), .null, .int 0]))]) 0 0 := by
  refine CL.of (cc := cJxc12de_init_da8c8) (nL := 1) (ret := none) (by decide) rfl (Nat.le_of_ble_eq_true rfl) ?_
  intro p e s m args below meth c h hr hk hin
  show GL _ _ _ _ _ _ _ _ _ _ _ _ _ _ _ _ (X ++ [(a, .inr (0, [.int 0, .null, .int 0]))]) 0 [(0, .ref a)] []
  refine l_aload_n h 0 dJxc12de_init_da8c8_0 rfl rfl ?_
  refine l_callI (As := []) h 0 (k_Jxa l E _ a) rfl gJxc12de_init_da8c8_Jxa1e45_init_da8c8 rfl rfl rfl rfl (by decide +kernel) (by decide +kernel) (by decide +kernel) rfl (by decide +kernel) ⟨Nat.le_of_ble_eq_true rfl, Nat.le_of_ble_eq_true rfl⟩ dJxc12de_init_da8c8_1 ⟨Nat.le_of_ble_eq_true rfl, Nat.le_of_ble_eq_true rfl⟩ (Nat.le_of_ble_eq_true rfl) ?_
  rintro _ _ ⟨rfl, rfl⟩
  dsimp only [Option.toList, List.nil_append]
  refine l_aload_n h 0 dJxc12de_init_da8c8_4 rfl rfl ?_
  refine l_iconst (v := nI 0) h dJxc12de_init_da8c8_5 (by decide) ?_
  refine l_put (X := X) (L' := [(a, .inr (0, [.int (nI 0), .null, .int 0]))]) (C := RJx4a65c) (T := TJx4a65c) (N := 3) h 0 0 tyJx4a65c rfl rfl rfl (by decide +kernel) tyJx4a65c_ok nmJx4a65c (by decide) (by decide +kernel) rfl rfl rfl rfl rfl (Nat.le_of_ble_eq_true rfl) dJxc12de_init_da8c8_6 ?_
  exact l_vret h hr hk dJxc12de_init_da8c8_9 (Nat.le_refl _) (Nat.le_refl _) ⟨rfl, rfl⟩
set_option maxRecDepth 100000 in
theorem k_Jx4 (l : Launch) (E : gE) (X : va_W) (a : Nat) : CL l yJx4a65c_init_da8c8 wsJx4a65c_init_da8c8 { frames := 3, cells := 0, slots := 0, locals := 52 } E [.ref a] (X ++ [(a, .inr (0, [.int 0, .null, .int 0]))]) (fun v w' => v = none ∧ w' = X ++ [(a, .inr (0, [.int (nI 0), .ref E.z, .int 0]))]) 0 0 := by
  refine CL.of (cc := cJx4a65c_init_da8c8) (nL := 1) (ret := none) (by decide) rfl (Nat.le_of_ble_eq_true rfl) ?_
  intro p e s m args below meth c h hr hk hin
  show GL _ _ _ _ _ _ _ _ _ _ _ _ _ _ _ _ (X ++ [(a, .inr (0, [.int 0, .null, .int 0]))]) 0 [(0, .ref a)] []
  refine l_aload_n h 0 dJx4a65c_init_da8c8_0 rfl rfl ?_
  refine l_callI (As := []) h 0 (k_Jxc l E X a) rfl gJx4a65c_init_da8c8_Jxc12de_init_da8c8 rfl rfl rfl rfl (by decide +kernel) (by decide +kernel) (by decide +kernel) rfl (by decide +kernel) ⟨Nat.le_of_ble_eq_true rfl, Nat.le_of_ble_eq_true rfl⟩ dJx4a65c_init_da8c8_1 ⟨Nat.le_of_ble_eq_true rfl, Nat.le_of_ble_eq_true rfl⟩ (Nat.le_of_ble_eq_true rfl) ?_
  rintro _ _ ⟨rfl, rfl⟩
  dsimp only [Option.toList, List.nil_append]
  refine l_aload_n h 0 dJx4a65c_init_da8c8_4 rfl rfl ?_
  refine l_getsZ h (by decide +kernel) dJx4a65c_init_da8c8_5 ?_
  refine l_put (X := X) (L' := [(a, .inr (0, [.int (nI 0), .ref E.z, .int 0]))]) (C := RJx4a65c) (T := TJx4a65c) (N := 3) h 0 1 tyJx4a65c rfl rfl rfl (by decide +kernel) tyJx4a65c_ok nmJx4a65c (by decide) (by decide +kernel) rfl rfl rfl rfl rfl (Nat.le_of_ble_eq_true rfl) dJx4a65c_init_da8c8_8 ?_
  exact l_vret h hr hk dJx4a65c_init_da8c8_11 (Nat.le_refl _) (Nat.le_refl _) ⟨rfl, rfl⟩
set_option maxRecDepth 100000 in
theorem k_X4 (l : Launch) (E : gE) (X : va_W) (a : Nat) : CL l yX4_init wsX4_init { frames := 1, cells := 0, slots := 0, locals := 12 } E [.ref a] (X ++ [(a, .inr (5, [.int 0, .int 0, .int 0, .int 0, .int 0, .int 0, .int 0]))]) (fun v w' => v = none ∧ w' = X ++ [(a, .inr (5, [.int (-1), .int 0, .int 0, .int 0, .int 0, .int 0, .int 0]))]) 0 0 := by
  refine CL.of (cc := cX4_init) (nL := 1) (ret := none) (by decide) rfl (Nat.le_of_ble_eq_true rfl) ?_
  intro p e s m args below meth c h hr hk hin
  show GL _ _ _ _ _ _ _ _ _ _ _ _ _ _ _ _ (X ++ [(a, .inr (5, [.int 0, .int 0, .int 0, .int 0, .int 0, .int 0, .int 0]))]) 0 [(0, .ref a)] []
  refine l_aload_n h 0 dX4_init_0 rfl rfl ?_
  refine l_objInit h (by decide +kernel) (by decide +kernel) (by decide +kernel) (Nat.le_of_ble_eq_true rfl) (Nat.le_of_ble_eq_true rfl) dX4_init_1 ?_
  refine l_aload_n h 0 dX4_init_4 rfl rfl ?_
  refine l_iconst (v := (-1)) h dX4_init_5 (by decide) ?_
  refine l_put (X := X) (L' := [(a, .inr (5, [.int (-1), .int 0, .int 0, .int 0, .int 0, .int 0, .int 0]))]) (C := RX4) (T := TX4) (N := 7) h 0 0 tyX4 rfl rfl rfl (by decide +kernel) tyX4_ok nmX4 (by decide) (by decide +kernel) rfl rfl rfl rfl rfl (Nat.le_of_ble_eq_true rfl) dX4_init_6 ?_
  exact l_vret h hr hk dX4_init_9 (Nat.le_refl _) (Nat.le_refl _) ⟨rfl, rfl⟩
set_option maxRecDepth 100000 in
theorem k_X3 (l : Launch) (E : gE) (X : va_W) (a : Nat) : CL l yX3_init wsX3_init { frames := 4, cells := 1, slots := 3, locals := 72 } E [.ref a] (X ++ [(a, .inr (4, [.null]))]) (fun v w' => v = none ∧ ∃ b : Nat, w' = X ++ [(a, .inr (4, [.ref b])), (b, .inr (0, [.int (nI 0), .ref E.z, .int 0]))]) 1 3 := by
  refine CL.of (cc := cX3_init) (nL := 1) (ret := none) (by decide) rfl (Nat.le_of_ble_eq_true rfl) ?_
  intro p e s m args below meth c h hr hk hin
  show GL _ _ _ _ _ _ _ _ _ _ _ _ _ _ _ _ (X ++ [(a, .inr (4, [.null]))]) 0 [(0, .ref a)] []
  refine l_aload_n h 0 dX3_init_0 rfl rfl ?_
  refine l_objInit h (by decide +kernel) (by decide +kernel) (by decide +kernel) (Nat.le_of_ble_eq_true rfl) (Nat.le_of_ble_eq_true rfl) dX3_init_1 ?_
  refine l_aload_n h 0 dX3_init_4 rfl rfl ?_
  refine l_new (ci := 0) (fs := [.int 0, .null, .int 0]) (C := RJx4a65c) (T := TJx4a65c) (N := 3) h tyJx4a65c rfl (by decide +kernel) tyJx4a65c_ok (by decide +kernel) (by decide +kernel) (by decide +kernel) (fun j hj => by rcases (show j = 0 ∨ j = 1 ∨ j = 2 by omega) with rfl | rfl | rfl <;> rfl) (Nat.le_of_ble_eq_true rfl) (Nat.le_of_ble_eq_true rfl) dX3_init_5 (fun q0 => ?_)
  refine l_w (w' := X ++ [(a, .inr (4, [.null])), (q0, .inr (0, [.int 0, .null, .int 0]))]) (List.append_assoc ..) ?_
  refine l_dup h dX3_init_8 rfl ?_
  refine l_w (w' := (X ++ ([(a, .inr (4, [.null]))] : va_W)) ++ ([(q0, .inr (0, [.int 0, .null, .int 0]))] : va_W)) (List.append_assoc X [(a, .inr (4, [.null]))] [(q0, .inr (0, [.int 0, .null, .int 0]))]).symm ?_
  refine l_callI (As := []) h 0 (k_Jx4 l E _ q0) rfl gX3_init_Jx4a65c_init_da8c8 rfl rfl rfl rfl (by decide +kernel) (by decide +kernel) (by decide +kernel) rfl (by decide +kernel) ⟨Nat.le_of_ble_eq_true rfl, Nat.le_of_ble_eq_true rfl⟩ dX3_init_9 ⟨Nat.le_of_ble_eq_true rfl, Nat.le_of_ble_eq_true rfl⟩ (Nat.le_of_ble_eq_true rfl) ?_
  rintro _ _ ⟨rfl, rfl⟩
  dsimp only [Option.toList, List.nil_append]
  refine l_w (w' := X ++ [(a, .inr (4, [.null])), (q0, .inr (0, [.int (nI 0), .ref E.z, .int 0]))]) (List.append_assoc ..) ?_
  refine l_putF (X := X) (L' := [(a, .inr (4, [.ref q0])), (q0, .inr (0, [.int (nI 0), .ref E.z, .int 0]))]) (C := RX3) (T := TX3) (N := 1) h 0 0 tyX3 rfl rfl rfl (by decide +kernel) tyX3_ok nmX3 (by decide) (by decide +kernel) rfl rfl hin rfl rfl rfl rfl (Nat.le_of_ble_eq_true rfl) dX3_init_12 ?_
  exact l_vret h hr hk dX3_init_15 (Nat.le_refl _) (Nat.le_refl _) ⟨rfl, q0, rfl⟩
set_option maxRecDepth 100000 in
theorem k_X1 (l : Launch) (E : gE) (X : va_W) (a n : Nat) (k : Int32) : CL l yX1_init wsX1_init { frames := 4, cells := 1, slots := 3, locals := 72 } E [.ref a, .int k, .ref n] (X ++ [(a, .inr (2, [.int 0, .null, .null, .int 0, .int 0, .int 0, .int 0, .int 0, .int 0]))]) (fun v w' => v = none ∧ ∃ b : Nat, w' = X ++ [(a, .inr (2, [.int k, .ref n, .ref b, .int (nI 0), .int (-1), .int (nI 0), .int (nI 0), .int (nI 0), .int (nI 0)])), (b, .inr (0, [.int (nI 0), .ref E.z, .int 0]))]) 1 3 := by
  refine CL.of (cc := cX1_init) (nL := 3) (ret := none) (by decide) rfl (Nat.le_of_ble_eq_true rfl) ?_
  intro p e s m args below meth c h hr hk hin
  show GL _ _ _ _ _ _ _ _ _ _ _ _ _ _ _ _ (X ++ [(a, .inr (2, [.int 0, .null, .null, .int 0, .int 0, .int 0, .int 0, .int 0, .int 0]))]) 0 [(0, .ref a), (1, .int k), (2, .ref n)] []
  refine l_aload_n h 0 dX1_init_0 rfl rfl ?_
  refine l_objInit h (by decide +kernel) (by decide +kernel) (by decide +kernel) (Nat.le_of_ble_eq_true rfl) (Nat.le_of_ble_eq_true rfl) dX1_init_1 ?_
  refine l_aload_n h 0 dX1_init_4 rfl rfl ?_
  refine l_new (ci := 0) (fs := [.int 0, .null, .int 0]) (C := RJx4a65c) (T := TJx4a65c) (N := 3) h tyJx4a65c rfl (by decide +kernel) tyJx4a65c_ok (by decide +kernel) (by decide +kernel) (by decide +kernel) (fun j hj => by rcases (show j = 0 ∨ j = 1 ∨ j = 2 by omega) with rfl | rfl | rfl <;> rfl) (Nat.le_of_ble_eq_true rfl) (Nat.le_of_ble_eq_true rfl) dX1_init_5 (fun q0 => ?_)
  refine l_w (w' := X ++ [(a, .inr (2, [.int 0, .null, .null, .int 0, .int 0, .int 0, .int 0, .int 0, .int 0])), (q0, .inr (0, [.int 0, .null, .int 0]))]) (List.append_assoc ..) ?_
  refine l_dup h dX1_init_8 rfl ?_
  refine l_w (w' := (X ++ ([(a, .inr (2, [.int 0, .null, .null, .int 0, .int 0, .int 0, .int 0, .int 0, .int 0]))] : va_W)) ++ ([(q0, .inr (0, [.int 0, .null, .int 0]))] : va_W)) (List.append_assoc X [(a, .inr (2, [.int 0, .null, .null, .int 0, .int 0, .int 0, .int 0, .int 0, .int 0]))] [(q0, .inr (0, [.int 0, .null, .int 0]))]).symm ?_
  refine l_callI (As := []) h 0 (k_Jx4 l E _ q0) rfl gX1_init_Jx4a65c_init_da8c8 rfl rfl rfl rfl (by decide +kernel) (by decide +kernel) (by decide +kernel) rfl (by decide +kernel) ⟨Nat.le_of_ble_eq_true rfl, Nat.le_of_ble_eq_true rfl⟩ dX1_init_9 ⟨Nat.le_of_ble_eq_true rfl, Nat.le_of_ble_eq_true rfl⟩ (Nat.le_of_ble_eq_true rfl) ?_
  rintro _ _ ⟨rfl, rfl⟩
  dsimp only [Option.toList, List.nil_append]
  refine l_w (w' := X ++ [(a, .inr (2, [.int 0, .null, .null, .int 0, .int 0, .int 0, .int 0, .int 0, .int 0])), (q0, .inr (0, [.int (nI 0), .ref E.z, .int 0]))]) (List.append_assoc ..) ?_
  refine l_putF (X := X) (L' := [(a, .inr (2, [.int 0, .null, .ref q0, .int 0, .int 0, .int 0, .int 0, .int 0, .int 0])), (q0, .inr (0, [.int (nI 0), .ref E.z, .int 0]))]) (C := RX1) (T := TX1) (N := 9) h 0 2 tyX1 rfl rfl rfl (by decide +kernel) tyX1_ok nmX1 (by decide) (by decide +kernel) rfl rfl hin rfl rfl rfl rfl (Nat.le_of_ble_eq_true rfl) dX1_init_12 ?_
  refine l_aload_n h 0 dX1_init_15 rfl rfl ?_
  refine l_iconst (v := nI 0) h dX1_init_16 (by decide) ?_
  refine l_put (X := X) (L' := [(a, .inr (2, [.int 0, .null, .ref q0, .int (nI 0), .int 0, .int 0, .int 0, .int 0, .int 0])), (q0, .inr (0, [.int (nI 0), .ref E.z, .int 0]))]) (C := RX1) (T := TX1) (N := 9) h 0 3 tyX1 rfl rfl rfl (by decide +kernel) tyX1_ok nmX1 (by decide) (by decide +kernel) rfl rfl rfl rfl rfl (Nat.le_of_ble_eq_true rfl) dX1_init_17 ?_
  refine l_aload_n h 0 dX1_init_20 rfl rfl ?_
  refine l_iconst (v := (-1)) h dX1_init_21 (by decide) ?_
  refine l_put (X := X) (L' := [(a, .inr (2, [.int 0, .null, .ref q0, .int (nI 0), .int (-1), .int 0, .int 0, .int 0, .int 0])), (q0, .inr (0, [.int (nI 0), .ref E.z, .int 0]))]) (C := RX1) (T := TX1) (N := 9) h 0 4 tyX1 rfl rfl rfl (by decide +kernel) tyX1_ok nmX1 (by decide) (by decide +kernel) rfl rfl rfl rfl rfl (Nat.le_of_ble_eq_true rfl) dX1_init_22 ?_
  refine l_aload_n h 0 dX1_init_25 rfl rfl ?_
  refine l_iconst (v := nI 0) h dX1_init_26 (by decide) ?_
  refine l_put (X := X) (L' := [(a, .inr (2, [.int 0, .null, .ref q0, .int (nI 0), .int (-1), .int (nI 0), .int 0, .int 0, .int 0])), (q0, .inr (0, [.int (nI 0), .ref E.z, .int 0]))]) (C := RX1) (T := TX1) (N := 9) h 0 5 tyX1 rfl rfl rfl (by decide +kernel) tyX1_ok nmX1 (by decide) (by decide +kernel) rfl rfl rfl rfl rfl (Nat.le_of_ble_eq_true rfl) dX1_init_27 ?_
  refine l_aload_n h 0 dX1_init_30 rfl rfl ?_
  refine l_iconst (v := nI 0) h dX1_init_31 (by decide) ?_
  refine l_put (X := X) (L' := [(a, .inr (2, [.int 0, .null, .ref q0, .int (nI 0), .int (-1), .int (nI 0), .int (nI 0), .int 0, .int 0])), (q0, .inr (0, [.int (nI 0), .ref E.z, .int 0]))]) (C := RX1) (T := TX1) (N := 9) h 0 6 tyX1 rfl rfl rfl (by decide +kernel) tyX1_ok nmX1 (by decide) (by decide +kernel) rfl rfl rfl rfl rfl (Nat.le_of_ble_eq_true rfl) dX1_init_32 ?_
  refine l_aload_n h 0 dX1_init_35 rfl rfl ?_
  refine l_iconst (v := nI 0) h dX1_init_36 (by decide) ?_
  refine l_put (X := X) (L' := [(a, .inr (2, [.int 0, .null, .ref q0, .int (nI 0), .int (-1), .int (nI 0), .int (nI 0), .int (nI 0), .int 0])), (q0, .inr (0, [.int (nI 0), .ref E.z, .int 0]))]) (C := RX1) (T := TX1) (N := 9) h 0 7 tyX1 rfl rfl rfl (by decide +kernel) tyX1_ok nmX1 (by decide) (by decide +kernel) rfl rfl rfl rfl rfl (Nat.le_of_ble_eq_true rfl) dX1_init_37 ?_
  refine l_aload_n h 0 dX1_init_40 rfl rfl ?_
  refine l_iconst (v := nI 0) h dX1_init_41 (by decide) ?_
  refine l_put (X := X) (L' := [(a, .inr (2, [.int 0, .null, .ref q0, .int (nI 0), .int (-1), .int (nI 0), .int (nI 0), .int (nI 0), .int (nI 0)])), (q0, .inr (0, [.int (nI 0), .ref E.z, .int 0]))]) (C := RX1) (T := TX1) (N := 9) h 0 8 tyX1 rfl rfl rfl (by decide +kernel) tyX1_ok nmX1 (by decide) (by decide +kernel) rfl rfl rfl rfl rfl (Nat.le_of_ble_eq_true rfl) dX1_init_42 ?_
  refine l_aload_n h 0 dX1_init_45 rfl rfl ?_
  refine l_iload_n h 1 dX1_init_46 rfl rfl ?_
  refine l_putF (X := X) (L' := [(a, .inr (2, [.int k, .null, .ref q0, .int (nI 0), .int (-1), .int (nI 0), .int (nI 0), .int (nI 0), .int (nI 0)])), (q0, .inr (0, [.int (nI 0), .ref E.z, .int 0]))]) (C := RX1) (T := TX1) (N := 9) h 0 0 tyX1 rfl rfl rfl (by decide +kernel) tyX1_ok nmX1 (by decide) (by decide +kernel) rfl rfl hin rfl rfl rfl rfl (Nat.le_of_ble_eq_true rfl) dX1_init_47 ?_
  refine l_aload_n h 0 dX1_init_50 rfl rfl ?_
  refine l_aload_n h 2 dX1_init_51 rfl rfl ?_
  refine l_putF (X := X) (L' := [(a, .inr (2, [.int k, .ref n, .ref q0, .int (nI 0), .int (-1), .int (nI 0), .int (nI 0), .int (nI 0), .int (nI 0)])), (q0, .inr (0, [.int (nI 0), .ref E.z, .int 0]))]) (C := RX1) (T := TX1) (N := 9) h 0 1 tyX1 rfl rfl rfl (by decide +kernel) tyX1_ok nmX1 (by decide) (by decide +kernel) rfl rfl hin rfl rfl rfl rfl (Nat.le_of_ble_eq_true rfl) dX1_init_52 ?_
  exact l_vret h hr hk dX1_init_55 (Nat.le_refl _) (Nat.le_refl _) ⟨rfl, q0, rfl⟩
