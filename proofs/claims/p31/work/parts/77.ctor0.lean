/-! ===== the constructor of a cache ===== -/
abbrev rm_C0 : Room := { frames := 2, cells := 5, slots := 59, locals := 32 }
def cm_f (i : Nat) : Nat → Int32 := fun j => if j < i then -1 else 0
theorem cm_z : (fun _ => 0 : Nat → Int32) = cm_f 0 := by
  funext j
  simp [cm_f]
theorem cm_s (i : Nat) : upd (cm_f i) i (-1) = cm_f (i + 1) := by
  funext j
  unfold upd cm_f
  by_cases h : j = i
  · subst h
    simp
  · rw [if_neg h]
    by_cases h2 : j < i
    · rw [if_pos h2, if_pos (by omega)]
    · rw [if_neg h2, if_neg (by omega)]
section CTOR0
variable {p : Program} {l : Launch} {e : Env} {s : State} {m : MethodId} {below : List Frame} {meth : Method} {c : Code} {Q : State → Prop}

set_option maxRecDepth 100000 in
theorem k_X0_loop (E : gE) (X w0 : va_W) (a n q0 q1 q2 q3 q4 : Nat) (k : Int32) {args : Array Value} (h : lO p s m args c cX0_init 4 RX0 wsX0_init E (va_A w0 s.heap.size))
    (hend : GL p l e rm_C0 s m args below meth c Q E (va_A w0 s.heap.size) 4 5 59 (X ++ [(a, .inr (1, [.int k, .ref n, .ref q0, .ref q1, .ref q2, .ref q3, .ref q4, .int (nI 0), .int (nI 0), .int (nI 2), .int (nI 1), .int (-1), .int (nI 0), .int (nI 0)])), (q0, .inr (5, [.int (-1), .int 0, .int 0, .int 0, .int 0, .int 0, .int 0])), (q1, .inl (E.cid 0, 16, .inl (fun _ => 0))), (q2, .inl (E.cid 0, 16, .inl (cm_f 16))), (q3, .inl (E.cid 0, 16, .inl (cm_f 16))), (q4, .inl (E.cid 0, 4, .inl (fun _ => 0)))]) 119 [(0, .ref a)] []) :
    ∀ (r i : Nat), i + r = 16 → GL p l e rm_C0 s m args below meth c Q E (va_A w0 s.heap.size) 4 5 59 (X ++ [(a, .inr (1, [.int k, .ref n, .ref q0, .ref q1, .ref q2, .ref q3, .ref q4, .int (nI 0), .int (nI 0), .int (nI 2), .int (nI 1), .int (-1), .int (nI 0), .int (nI 0)])), (q0, .inr (5, [.int (-1), .int 0, .int 0, .int 0, .int 0, .int 0, .int 0])), (q1, .inl (E.cid 0, 16, .inl (fun _ => 0))), (q2, .inl (E.cid 0, 16, .inl (cm_f i))), (q3, .inl (E.cid 0, 16, .inl (cm_f i))), (q4, .inl (E.cid 0, 4, .inl (fun _ => 0)))]) 93 [(0, .ref a), (1, .int k), (2, .ref n), (3, .int (nI i))] [] := by
  intro r
  induction r with
  | zero =>
    intro i hi
    have hi : i = 16 := by omega
    subst hi
    refine l_iload_n h 3 dX0_init_93 rfl rfl ?_
    refine l_bipush (v := nI 16) h dX0_init_94 (by decide) ?_
    refine l_icmp_geN h 119 dX0_init_96 (by decide) (by omega) (by omega) (fun _ => ?_) (fun z => absurd (Nat.le_refl _) z)
    exact fun H locs ls hP hD hS hl => hend H locs ls hP hD hS (lv_sub hl [0] rfl)
  | succ r ih =>
    intro i hi
    refine l_iload_n h 3 dX0_init_93 rfl rfl ?_
    refine l_bipush (v := nI 16) h dX0_init_94 (by decide) ?_
    refine l_icmp_geN h 119 dX0_init_96 (by decide) (by omega) (by omega) (fun z => absurd z (by omega)) (fun _ => ?_)
    refine l_aload_n h 0 dX0_init_99 rfl rfl ?_
    refine l_get (X := X) (C := RX0) (T := TX0) (N := 14) h 0 4 rfl rfl (by decide +kernel) (by decide) (by decide +kernel) rfl rfl dX0_init_100 ?_
    refine l_iload_n h 3 dX0_init_103 rfl rfl ?_
    refine l_iconst (v := (-1)) h dX0_init_104 (by decide) ?_
    refine l_iast (X := X) (L' := [(a, .inr (1, [.int k, .ref n, .ref q0, .ref q1, .ref q2, .ref q3, .ref q4, .int (nI 0), .int (nI 0), .int (nI 2), .int (nI 1), .int (-1), .int (nI 0), .int (nI 0)])), (q0, .inr (5, [.int (-1), .int 0, .int 0, .int 0, .int 0, .int 0, .int 0])), (q1, .inl (E.cid 0, 16, .inl (fun _ => 0))), (q2, .inl (E.cid 0, 16, .inl (upd (cm_f i) i (-1)))), (q3, .inl (E.cid 0, 16, .inl (cm_f i))), (q4, .inl (E.cid 0, 4, .inl (fun _ => 0)))]) h 3 rfl rfl (by omega) (by omega) dX0_init_105 ?_
    refine l_aload_n h 0 dX0_init_106 rfl rfl ?_
    refine l_get (X := X) (C := RX0) (T := TX0) (N := 14) h 0 5 rfl rfl (by decide +kernel) (by decide) (by decide +kernel) rfl rfl dX0_init_107 ?_
    refine l_iload_n h 3 dX0_init_110 rfl rfl ?_
    refine l_iconst (v := (-1)) h dX0_init_111 (by decide) ?_
    refine l_iast (X := X) (L' := [(a, .inr (1, [.int k, .ref n, .ref q0, .ref q1, .ref q2, .ref q3, .ref q4, .int (nI 0), .int (nI 0), .int (nI 2), .int (nI 1), .int (-1), .int (nI 0), .int (nI 0)])), (q0, .inr (5, [.int (-1), .int 0, .int 0, .int 0, .int 0, .int 0, .int 0])), (q1, .inl (E.cid 0, 16, .inl (fun _ => 0))), (q2, .inl (E.cid 0, 16, .inl (upd (cm_f i) i (-1)))), (q3, .inl (E.cid 0, 16, .inl (upd (cm_f i) i (-1)))), (q4, .inl (E.cid 0, 4, .inl (fun _ => 0)))]) h 4 rfl rfl (by omega) (by omega) dX0_init_112 ?_
    refine l_w (w' := X ++ [(a, .inr (1, [.int k, .ref n, .ref q0, .ref q1, .ref q2, .ref q3, .ref q4, .int (nI 0), .int (nI 0), .int (nI 2), .int (nI 1), .int (-1), .int (nI 0), .int (nI 0)])), (q0, .inr (5, [.int (-1), .int 0, .int 0, .int 0, .int 0, .int 0, .int 0])), (q1, .inl (E.cid 0, 16, .inl (fun _ => 0))), (q2, .inl (E.cid 0, 16, .inl (cm_f (i + 1)))), (q3, .inl (E.cid 0, 16, .inl (cm_f (i + 1)))), (q4, .inl (E.cid 0, 4, .inl (fun _ => 0)))]) (by rw [cm_s]) ?_
    refine l_iinc (lv' := [(0, .ref a), (1, .int k), (2, .ref n), (3, .int (nI (i + 1)))]) h 3 [1, 2, 3, 0] dX0_init_113 rfl (nI_add _ 1) (by decide) rfl ?_
    refine l_goto h 93 dX0_init_116 (by decide) ?_
    exact ih (i + 1) (by omega)
end CTOR0
set_option maxRecDepth 100000 in
theorem k_X0 (l : Launch) (E : gE) (X : va_W) (a n : Nat) (k : Int32) : CL l yX0_init wsX0_init rm_C0 E [.ref a, .int k, .ref n] (X ++ [(a, .inr (1, [.int 0, .null, .null, .null, .null, .null, .null, .int 0, .int 0, .int 0, .int 0, .int 0, .int 0, .int 0]))]) (fun v w' => v = none ∧ ∃ q0 q1 q2 q3 q4 : Nat, w' = X ++ [(a, .inr (1, [.int k, .ref n, .ref q0, .ref q1, .ref q2, .ref q3, .ref q4, .int (nI 0), .int (nI 0), .int (nI 2), .int (nI 1), .int (-1), .int (nI 0), .int (nI 0)])), (q0, .inr (5, [.int (-1), .int 0, .int 0, .int 0, .int 0, .int 0, .int 0])), (q1, .inl (E.cid 0, 16, .inl (fun _ => 0))), (q2, .inl (E.cid 0, 16, .inl (cm_f 16))), (q3, .inl (E.cid 0, 16, .inl (cm_f 16))), (q4, .inl (E.cid 0, 4, .inl (fun _ => 0)))]) 5 59 := by
  refine CL.of (cc := cX0_init) (nL := 4) (ret := none) (by decide) rfl (Nat.le_of_ble_eq_true rfl) ?_
  intro p e s m args below meth c h hr hk hin
  show GL _ _ _ _ _ _ _ _ _ _ _ _ _ _ _ _ (X ++ [(a, .inr (1, [.int 0, .null, .null, .null, .null, .null, .null, .int 0, .int 0, .int 0, .int 0, .int 0, .int 0, .int 0]))]) 0 [(0, .ref a), (1, .int k), (2, .ref n)] []
  refine l_aload_n h 0 dX0_init_0 rfl rfl ?_
  refine l_objInit h (by decide +kernel) (by decide +kernel) (by decide +kernel) (Nat.le_of_ble_eq_true rfl) (Nat.le_of_ble_eq_true rfl) dX0_init_1 ?_
  refine l_aload_n h 0 dX0_init_4 rfl rfl ?_
  refine l_new (ci := 5) (fs := [.int 0, .int 0, .int 0, .int 0, .int 0, .int 0, .int 0]) (C := RX4) (T := TX4) (N := 7) h tyX4 rfl (by decide +kernel) tyX4_ok (by decide +kernel) (by decide +kernel) (by decide +kernel) (fun j hj => by rcases (show j = 0 ∨ j = 1 ∨ j = 2 ∨ j = 3 ∨ j = 4 ∨ j = 5 ∨ j = 6 by omega) with rfl | rfl | rfl | rfl | rfl | rfl | rfl <;> rfl) (Nat.le_of_ble_eq_true rfl) (Nat.le_of_ble_eq_true rfl) dX0_init_5 (fun q0 => ?_)
  refine l_w (w' := X ++ [(a, .inr (1, [.int 0, .null, .null, .null, .null, .null, .null, .int 0, .int 0, .int 0, .int 0, .int 0, .int 0, .int 0])), (q0, .inr (5, [.int 0, .int 0, .int 0, .int 0, .int 0, .int 0, .int 0]))]) (List.append_assoc ..) ?_
  refine l_dup h dX0_init_8 rfl ?_
  refine l_w (w' := (X ++ ([(a, .inr (1, [.int 0, .null, .null, .null, .null, .null, .null, .int 0, .int 0, .int 0, .int 0, .int 0, .int 0, .int 0]))] : va_W)) ++ ([(q0, .inr (5, [.int 0, .int 0, .int 0, .int 0, .int 0, .int 0, .int 0]))] : va_W)) (List.append_assoc X [(a, .inr (1, [.int 0, .null, .null, .null, .null, .null, .null, .int 0, .int 0, .int 0, .int 0, .int 0, .int 0, .int 0]))] [(q0, .inr (5, [.int 0, .int 0, .int 0, .int 0, .int 0, .int 0, .int 0]))]).symm ?_
  refine l_callIN (As := []) h 0 (k_X4 l E _ q0) rfl gX0_init_X4_init_n11 rfl rfl rfl rfl (by decide +kernel) h.2.2.2.2.2.2.2.1.2.1 (by decide +kernel) rfl (by decide +kernel) ⟨Nat.le_of_ble_eq_true rfl, Nat.le_of_ble_eq_true rfl⟩ dX0_init_9 ⟨Nat.le_of_ble_eq_true rfl, Nat.le_of_ble_eq_true rfl⟩ (Nat.le_of_ble_eq_true rfl) ?_
  rintro _ _ ⟨rfl, rfl⟩
  dsimp only [Option.toList, List.nil_append]
  refine l_w (w' := X ++ [(a, .inr (1, [.int 0, .null, .null, .null, .null, .null, .null, .int 0, .int 0, .int 0, .int 0, .int 0, .int 0, .int 0])), (q0, .inr (5, [.int (-1), .int 0, .int 0, .int 0, .int 0, .int 0, .int 0]))]) (List.append_assoc ..) ?_
  refine l_putF (X := X) (L' := [(a, .inr (1, [.int 0, .null, .ref q0, .null, .null, .null, .null, .int 0, .int 0, .int 0, .int 0, .int 0, .int 0, .int 0])), (q0, .inr (5, [.int (-1), .int 0, .int 0, .int 0, .int 0, .int 0, .int 0]))]) (C := RX0) (T := TX0) (N := 14) h 0 2 tyX0 rfl rfl rfl (by decide +kernel) tyX0_ok nmX0 (by decide) (by decide +kernel) rfl rfl hin rfl rfl rfl rfl (Nat.le_of_ble_eq_true rfl) dX0_init_12 ?_
  refine l_aload_n h 0 dX0_init_15 rfl rfl ?_
  refine l_bipush (v := nI 16) h dX0_init_16 (by decide) ?_
  refine l_newI (n := 16) h rfl (by decide +kernel) (by omega) (Nat.le_of_ble_eq_true rfl) (Nat.le_of_ble_eq_true rfl) dX0_init_18 (fun q1 => ?_)
  refine l_w (w' := X ++ [(a, .inr (1, [.int 0, .null, .ref q0, .null, .null, .null, .null, .int 0, .int 0, .int 0, .int 0, .int 0, .int 0, .int 0])), (q0, .inr (5, [.int (-1), .int 0, .int 0, .int 0, .int 0, .int 0, .int 0])), (q1, .inl (E.cid 0, 16, .inl (fun _ => 0)))]) (List.append_assoc ..) ?_
  refine l_putF (X := X) (L' := [(a, .inr (1, [.int 0, .null, .ref q0, .ref q1, .null, .null, .null, .int 0, .int 0, .int 0, .int 0, .int 0, .int 0, .int 0])), (q0, .inr (5, [.int (-1), .int 0, .int 0, .int 0, .int 0, .int 0, .int 0])), (q1, .inl (E.cid 0, 16, .inl (fun _ => 0)))]) (C := RX0) (T := TX0) (N := 14) h 0 3 tyX0 rfl rfl rfl (by decide +kernel) tyX0_ok nmX0 (by decide) (by decide +kernel) rfl rfl hin rfl rfl rfl rfl (Nat.le_of_ble_eq_true rfl) dX0_init_20 ?_
  refine l_aload_n h 0 dX0_init_23 rfl rfl ?_
  refine l_bipush (v := nI 16) h dX0_init_24 (by decide) ?_
  refine l_newI (n := 16) h rfl (by decide +kernel) (by omega) (Nat.le_of_ble_eq_true rfl) (Nat.le_of_ble_eq_true rfl) dX0_init_26 (fun q2 => ?_)
  refine l_w (w' := X ++ [(a, .inr (1, [.int 0, .null, .ref q0, .ref q1, .null, .null, .null, .int 0, .int 0, .int 0, .int 0, .int 0, .int 0, .int 0])), (q0, .inr (5, [.int (-1), .int 0, .int 0, .int 0, .int 0, .int 0, .int 0])), (q1, .inl (E.cid 0, 16, .inl (fun _ => 0))), (q2, .inl (E.cid 0, 16, .inl (fun _ => 0)))]) (List.append_assoc ..) ?_
  refine l_putF (X := X) (L' := [(a, .inr (1, [.int 0, .null, .ref q0, .ref q1, .ref q2, .null, .null, .int 0, .int 0, .int 0, .int 0, .int 0, .int 0, .int 0])), (q0, .inr (5, [.int (-1), .int 0, .int 0, .int 0, .int 0, .int 0, .int 0])), (q1, .inl (E.cid 0, 16, .inl (fun _ => 0))), (q2, .inl (E.cid 0, 16, .inl (fun _ => 0)))]) (C := RX0) (T := TX0) (N := 14) h 0 4 tyX0 rfl rfl rfl (by decide +kernel) tyX0_ok nmX0 (by decide) (by decide +kernel) rfl rfl hin rfl rfl rfl rfl (Nat.le_of_ble_eq_true rfl) dX0_init_28 ?_
  refine l_aload_n h 0 dX0_init_31 rfl rfl ?_
  refine l_bipush (v := nI 16) h dX0_init_32 (by decide) ?_
  refine l_newI (n := 16) h rfl (by decide +kernel) (by omega) (Nat.le_of_ble_eq_true rfl) (Nat.le_of_ble_eq_true rfl) dX0_init_34 (fun q3 => ?_)
  refine l_w (w' := X ++ [(a, .inr (1, [.int 0, .null, .ref q0, .ref q1, .ref q2, .null, .null, .int 0, .int 0, .int 0, .int 0, .int 0, .int 0, .int 0])), (q0, .inr (5, [.int (-1), .int 0, .int 0, .int 0, .int 0, .int 0, .int 0])), (q1, .inl (E.cid 0, 16, .inl (fun _ => 0))), (q2, .inl (E.cid 0, 16, .inl (fun _ => 0))), (q3, .inl (E.cid 0, 16, .inl (fun _ => 0)))]) (List.append_assoc ..) ?_
  refine l_putF (X := X) (L' := [(a, .inr (1, [.int 0, .null, .ref q0, .ref q1, .ref q2, .ref q3, .null, .int 0, .int 0, .int 0, .int 0, .int 0, .int 0, .int 0])), (q0, .inr (5, [.int (-1), .int 0, .int 0, .int 0, .int 0, .int 0, .int 0])), (q1, .inl (E.cid 0, 16, .inl (fun _ => 0))), (q2, .inl (E.cid 0, 16, .inl (fun _ => 0))), (q3, .inl (E.cid 0, 16, .inl (fun _ => 0)))]) (C := RX0) (T := TX0) (N := 14) h 0 5 tyX0 rfl rfl rfl (by decide +kernel) tyX0_ok nmX0 (by decide) (by decide +kernel) rfl rfl hin rfl rfl rfl rfl (Nat.le_of_ble_eq_true rfl) dX0_init_36 ?_
  refine l_aload_n h 0 dX0_init_39 rfl rfl ?_
  refine l_iconst (v := nI 4) h dX0_init_40 (by decide) ?_
  refine l_newI (n := 4) h rfl (by decide +kernel) (by omega) (Nat.le_of_ble_eq_true rfl) (Nat.le_of_ble_eq_true rfl) dX0_init_41 (fun q4 => ?_)
  refine l_w (w' := X ++ [(a, .inr (1, [.int 0, .null, .ref q0, .ref q1, .ref q2, .ref q3, .null, .int 0, .int 0, .int 0, .int 0, .int 0, .int 0, .int 0])), (q0, .inr (5, [.int (-1), .int 0, .int 0, .int 0, .int 0, .int 0, .int 0])), (q1, .inl (E.cid 0, 16, .inl (fun _ => 0))), (q2, .inl (E.cid 0, 16, .inl (fun _ => 0))), (q3, .inl (E.cid 0, 16, .inl (fun _ => 0))), (q4, .inl (E.cid 0, 4, .inl (fun _ => 0)))]) (List.append_assoc ..) ?_
  refine l_putF (X := X) (L' := [(a, .inr (1, [.int 0, .null, .ref q0, .ref q1, .ref q2, .ref q3, .ref q4, .int 0, .int 0, .int 0, .int 0, .int 0, .int 0, .int 0])), (q0, .inr (5, [.int (-1), .int 0, .int 0, .int 0, .int 0, .int 0, .int 0])), (q1, .inl (E.cid 0, 16, .inl (fun _ => 0))), (q2, .inl (E.cid 0, 16, .inl (fun _ => 0))), (q3, .inl (E.cid 0, 16, .inl (fun _ => 0))), (q4, .inl (E.cid 0, 4, .inl (fun _ => 0)))]) (C := RX0) (T := TX0) (N := 14) h 0 6 tyX0 rfl rfl rfl (by decide +kernel) tyX0_ok nmX0 (by decide) (by decide +kernel) rfl rfl hin rfl rfl rfl rfl (Nat.le_of_ble_eq_true rfl) dX0_init_43 ?_
  refine l_aload_n h 0 dX0_init_46 rfl rfl ?_
  refine l_iconst (v := nI 0) h dX0_init_47 (by decide) ?_
  refine l_put (X := X) (L' := [(a, .inr (1, [.int 0, .null, .ref q0, .ref q1, .ref q2, .ref q3, .ref q4, .int (nI 0), .int 0, .int 0, .int 0, .int 0, .int 0, .int 0])), (q0, .inr (5, [.int (-1), .int 0, .int 0, .int 0, .int 0, .int 0, .int 0])), (q1, .inl (E.cid 0, 16, .inl (fun _ => 0))), (q2, .inl (E.cid 0, 16, .inl (fun _ => 0))), (q3, .inl (E.cid 0, 16, .inl (fun _ => 0))), (q4, .inl (E.cid 0, 4, .inl (fun _ => 0)))]) (C := RX0) (T := TX0) (N := 14) h 0 7 tyX0 rfl rfl rfl (by decide +kernel) tyX0_ok nmX0 (by decide) (by decide +kernel) rfl rfl rfl rfl rfl (Nat.le_of_ble_eq_true rfl) dX0_init_48 ?_
  refine l_aload_n h 0 dX0_init_51 rfl rfl ?_
  refine l_iconst (v := nI 0) h dX0_init_52 (by decide) ?_
  refine l_put (X := X) (L' := [(a, .inr (1, [.int 0, .null, .ref q0, .ref q1, .ref q2, .ref q3, .ref q4, .int (nI 0), .int (nI 0), .int 0, .int 0, .int 0, .int 0, .int 0])), (q0, .inr (5, [.int (-1), .int 0, .int 0, .int 0, .int 0, .int 0, .int 0])), (q1, .inl (E.cid 0, 16, .inl (fun _ => 0))), (q2, .inl (E.cid 0, 16, .inl (fun _ => 0))), (q3, .inl (E.cid 0, 16, .inl (fun _ => 0))), (q4, .inl (E.cid 0, 4, .inl (fun _ => 0)))]) (C := RX0) (T := TX0) (N := 14) h 0 8 tyX0 rfl rfl rfl (by decide +kernel) tyX0_ok nmX0 (by decide) (by decide +kernel) rfl rfl rfl rfl rfl (Nat.le_of_ble_eq_true rfl) dX0_init_53 ?_
  refine l_aload_n h 0 dX0_init_56 rfl rfl ?_
  refine l_iconst (v := nI 2) h dX0_init_57 (by decide) ?_
  refine l_put (X := X) (L' := [(a, .inr (1, [.int 0, .null, .ref q0, .ref q1, .ref q2, .ref q3, .ref q4, .int (nI 0), .int (nI 0), .int (nI 2), .int 0, .int 0, .int 0, .int 0])), (q0, .inr (5, [.int (-1), .int 0, .int 0, .int 0, .int 0, .int 0, .int 0])), (q1, .inl (E.cid 0, 16, .inl (fun _ => 0))), (q2, .inl (E.cid 0, 16, .inl (fun _ => 0))), (q3, .inl (E.cid 0, 16, .inl (fun _ => 0))), (q4, .inl (E.cid 0, 4, .inl (fun _ => 0)))]) (C := RX0) (T := TX0) (N := 14) h 0 9 tyX0 rfl rfl rfl (by decide +kernel) tyX0_ok nmX0 (by decide) (by decide +kernel) rfl rfl rfl rfl rfl (Nat.le_of_ble_eq_true rfl) dX0_init_58 ?_
  refine l_aload_n h 0 dX0_init_61 rfl rfl ?_
  refine l_iconst (v := nI 1) h dX0_init_62 (by decide) ?_
  refine l_put (X := X) (L' := [(a, .inr (1, [.int 0, .null, .ref q0, .ref q1, .ref q2, .ref q3, .ref q4, .int (nI 0), .int (nI 0), .int (nI 2), .int (nI 1), .int 0, .int 0, .int 0])), (q0, .inr (5, [.int (-1), .int 0, .int 0, .int 0, .int 0, .int 0, .int 0])), (q1, .inl (E.cid 0, 16, .inl (fun _ => 0))), (q2, .inl (E.cid 0, 16, .inl (fun _ => 0))), (q3, .inl (E.cid 0, 16, .inl (fun _ => 0))), (q4, .inl (E.cid 0, 4, .inl (fun _ => 0)))]) (C := RX0) (T := TX0) (N := 14) h 0 10 tyX0 rfl rfl rfl (by decide +kernel) tyX0_ok nmX0 (by decide) (by decide +kernel) rfl rfl rfl rfl rfl (Nat.le_of_ble_eq_true rfl) dX0_init_63 ?_
  refine l_aload_n h 0 dX0_init_66 rfl rfl ?_
  refine l_iconst (v := (-1)) h dX0_init_67 (by decide) ?_
  refine l_put (X := X) (L' := [(a, .inr (1, [.int 0, .null, .ref q0, .ref q1, .ref q2, .ref q3, .ref q4, .int (nI 0), .int (nI 0), .int (nI 2), .int (nI 1), .int (-1), .int 0, .int 0])), (q0, .inr (5, [.int (-1), .int 0, .int 0, .int 0, .int 0, .int 0, .int 0])), (q1, .inl (E.cid 0, 16, .inl (fun _ => 0))), (q2, .inl (E.cid 0, 16, .inl (fun _ => 0))), (q3, .inl (E.cid 0, 16, .inl (fun _ => 0))), (q4, .inl (E.cid 0, 4, .inl (fun _ => 0)))]) (C := RX0) (T := TX0) (N := 14) h 0 11 tyX0 rfl rfl rfl (by decide +kernel) tyX0_ok nmX0 (by decide) (by decide +kernel) rfl rfl rfl rfl rfl (Nat.le_of_ble_eq_true rfl) dX0_init_68 ?_
  refine l_aload_n h 0 dX0_init_71 rfl rfl ?_
  refine l_iconst (v := nI 0) h dX0_init_72 (by decide) ?_
  refine l_put (X := X) (L' := [(a, .inr (1, [.int 0, .null, .ref q0, .ref q1, .ref q2, .ref q3, .ref q4, .int (nI 0), .int (nI 0), .int (nI 2), .int (nI 1), .int (-1), .int (nI 0), .int 0])), (q0, .inr (5, [.int (-1), .int 0, .int 0, .int 0, .int 0, .int 0, .int 0])), (q1, .inl (E.cid 0, 16, .inl (fun _ => 0))), (q2, .inl (E.cid 0, 16, .inl (fun _ => 0))), (q3, .inl (E.cid 0, 16, .inl (fun _ => 0))), (q4, .inl (E.cid 0, 4, .inl (fun _ => 0)))]) (C := RX0) (T := TX0) (N := 14) h 0 12 tyX0 rfl rfl rfl (by decide +kernel) tyX0_ok nmX0 (by decide) (by decide +kernel) rfl rfl rfl rfl rfl (Nat.le_of_ble_eq_true rfl) dX0_init_73 ?_
  refine l_aload_n h 0 dX0_init_76 rfl rfl ?_
  refine l_iconst (v := nI 0) h dX0_init_77 (by decide) ?_
  refine l_put (X := X) (L' := [(a, .inr (1, [.int 0, .null, .ref q0, .ref q1, .ref q2, .ref q3, .ref q4, .int (nI 0), .int (nI 0), .int (nI 2), .int (nI 1), .int (-1), .int (nI 0), .int (nI 0)])), (q0, .inr (5, [.int (-1), .int 0, .int 0, .int 0, .int 0, .int 0, .int 0])), (q1, .inl (E.cid 0, 16, .inl (fun _ => 0))), (q2, .inl (E.cid 0, 16, .inl (fun _ => 0))), (q3, .inl (E.cid 0, 16, .inl (fun _ => 0))), (q4, .inl (E.cid 0, 4, .inl (fun _ => 0)))]) (C := RX0) (T := TX0) (N := 14) h 0 13 tyX0 rfl rfl rfl (by decide +kernel) tyX0_ok nmX0 (by decide) (by decide +kernel) rfl rfl rfl rfl rfl (Nat.le_of_ble_eq_true rfl) dX0_init_78 ?_
  refine l_aload_n h 0 dX0_init_81 rfl rfl ?_
  refine l_iload_n h 1 dX0_init_82 rfl rfl ?_
  refine l_putF (X := X) (L' := [(a, .inr (1, [.int k, .null, .ref q0, .ref q1, .ref q2, .ref q3, .ref q4, .int (nI 0), .int (nI 0), .int (nI 2), .int (nI 1), .int (-1), .int (nI 0), .int (nI 0)])), (q0, .inr (5, [.int (-1), .int 0, .int 0, .int 0, .int 0, .int 0, .int 0])), (q1, .inl (E.cid 0, 16, .inl (fun _ => 0))), (q2, .inl (E.cid 0, 16, .inl (fun _ => 0))), (q3, .inl (E.cid 0, 16, .inl (fun _ => 0))), (q4, .inl (E.cid 0, 4, .inl (fun _ => 0)))]) (C := RX0) (T := TX0) (N := 14) h 0 0 tyX0 rfl rfl rfl (by decide +kernel) tyX0_ok nmX0 (by decide) (by decide +kernel) rfl rfl hin rfl rfl rfl rfl (Nat.le_of_ble_eq_true rfl) dX0_init_83 ?_
  refine l_aload_n h 0 dX0_init_86 rfl rfl ?_
  refine l_aload_n h 2 dX0_init_87 rfl rfl ?_
  refine l_putF (X := X) (L' := [(a, .inr (1, [.int k, .ref n, .ref q0, .ref q1, .ref q2, .ref q3, .ref q4, .int (nI 0), .int (nI 0), .int (nI 2), .int (nI 1), .int (-1), .int (nI 0), .int (nI 0)])), (q0, .inr (5, [.int (-1), .int 0, .int 0, .int 0, .int 0, .int 0, .int 0])), (q1, .inl (E.cid 0, 16, .inl (fun _ => 0))), (q2, .inl (E.cid 0, 16, .inl (fun _ => 0))), (q3, .inl (E.cid 0, 16, .inl (fun _ => 0))), (q4, .inl (E.cid 0, 4, .inl (fun _ => 0)))]) (C := RX0) (T := TX0) (N := 14) h 0 1 tyX0 rfl rfl rfl (by decide +kernel) tyX0_ok nmX0 (by decide) (by decide +kernel) rfl rfl hin rfl rfl rfl rfl (Nat.le_of_ble_eq_true rfl) dX0_init_88 ?_
  refine l_iconst (v := nI 0) h dX0_init_91 (by decide) ?_
  refine l_istore_n (lv' := [(0, .ref a), (1, .int k), (2, .ref n), (3, .int (nI 0))]) h [1, 2, 3, 0] dX0_init_92 rfl (by decide) rfl ?_
  refine l_w (w' := X ++ [(a, .inr (1, [.int k, .ref n, .ref q0, .ref q1, .ref q2, .ref q3, .ref q4, .int (nI 0), .int (nI 0), .int (nI 2), .int (nI 1), .int (-1), .int (nI 0), .int (nI 0)])), (q0, .inr (5, [.int (-1), .int 0, .int 0, .int 0, .int 0, .int 0, .int 0])), (q1, .inl (E.cid 0, 16, .inl (fun _ => 0))), (q2, .inl (E.cid 0, 16, .inl (cm_f 0))), (q3, .inl (E.cid 0, 16, .inl (cm_f 0))), (q4, .inl (E.cid 0, 4, .inl (fun _ => 0)))]) (by rw [cm_z]) ?_
  refine k_X0_loop E X _ a n q0 q1 q2 q3 q4 k h ?_ 16 0 rfl
  exact l_vret h hr hk dX0_init_119 (Nat.le_refl _) (Nat.le_refl _) ⟨rfl, q0, q1, q2, q3, q4, rfl⟩
