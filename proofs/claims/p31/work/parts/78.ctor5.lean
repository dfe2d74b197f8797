/-! ===== the constructor of the class ===== -/
/-- the cells that a cache consists of, at the addresses b -/
def k_cb (E : gE) (n j : Nat) (b : Nat → Nat) : va_W := [(b 0, .inr (1, [.int (nI j), .ref n, .ref (b 1), .ref (b 2), .ref (b 3), .ref (b 4), .ref (b 5), .int (nI 0), .int (nI 0), .int (nI 2), .int (nI 1), .int (-1), .int (nI 0), .int (nI 0)])), (b 1, .inr (5, [.int (-1), .int 0, .int 0, .int 0, .int 0, .int 0, .int 0])), (b 2, .inl (E.cid 0, 16, .inl (fun _ => 0))), (b 3, .inl (E.cid 0, 16, .inl (cm_f 16))), (b 4, .inl (E.cid 0, 16, .inl (cm_f 16))), (b 5, .inl (E.cid 0, 4, .inl (fun _ => 0)))]
def k_hb (E : gE) (n j : Nat) (b : Nat → Nat) : va_W := [(b 0, .inr (2, [.int (nI j), .ref n, .ref (b 1), .int (nI 0), .int (-1), .int (nI 0), .int (nI 0), .int (nI 0), .int (nI 0)])), (b 1, .inr (0, [.int (nI 0), .ref E.z, .int 0]))]
def k_cbl (E : gE) (n : Nat) (bf : Nat → Nat → Nat) (i : Nat) : va_W := (List.range i).flatMap (fun j => k_cb E n j (bf j))
def k_hbl (E : gE) (n : Nat) (bf : Nat → Nat → Nat) (i : Nat) : va_W := (List.range i).flatMap (fun j => k_hb E n j (bf j))
def k_car (bf : Nat → Nat → Nat) (i : Nat) : Nat → Option Nat := fun j => if j < i then some (bf j 0) else none
theorem k_car_z (bf : Nat → Nat → Nat) : (fun _ => none : Nat → Option Nat) = k_car bf 0 := by
  funext j
  simp [k_car]
theorem k_car_s (bf : Nat → Nat → Nat) (i : Nat) (b : Nat → Nat) : va_up (k_car bf i) i (some (b 0)) = k_car (va_up bf i b) (i + 1) := by
  funext j
  by_cases h : j = i
  · subst h
    rw [va_up_self]
    unfold k_car
    rw [if_pos (by omega), va_up_self]
  · rw [va_up_ne _ _ h]
    unfold k_car
    rw [va_up_ne _ _ h]
    by_cases h2 : j < i
    · rw [if_pos h2, if_pos (by omega)]
    · rw [if_neg h2, if_neg (by omega)]
theorem k_blk_s {f : Nat → (Nat → Nat) → va_W} (bf : Nat → Nat → Nat) (i : Nat) (b : Nat → Nat) : (List.range i).flatMap (fun j => f j (bf j)) ++ f i b = (List.range (i + 1)).flatMap (fun j => f j (va_up bf i b j)) := by
  rw [List.range_succ, List.flatMap_append]
  congr 1
  · rw [List.flatMap_def, List.flatMap_def]
    congr 1
    refine List.map_congr_left fun j hj => ?_
    have hj := List.mem_range.mp hj
    rw [va_up_ne _ _ (by omega)]
  · simp [va_up_self]
theorem k_cbl_s (E : gE) (n : Nat) (bf : Nat → Nat → Nat) (i : Nat) (b : Nat → Nat) : k_cbl E n bf i ++ k_cb E n i b = k_cbl E n (va_up bf i b) (i + 1) := k_blk_s bf i b
theorem k_hbl_s (E : gE) (n : Nat) (bf : Nat → Nat → Nat) (i : Nat) (b : Nat → Nat) : k_hbl E n bf i ++ k_hb E n i b = k_hbl E n (va_up bf i b) (i + 1) := k_blk_s bf i b
theorem k_mid (P B r : va_W) (x : Nat × va_E) : (P ++ (B ++ x :: r))[P.length + B.length]? = some x := by
  rw [List.getElem?_append_right (by omega), Nat.add_sub_cancel_left, List.getElem?_append_right (Nat.le_refl _), Nat.sub_self]
  rfl
def k_bl (l : List Nat) : Nat → Nat := fun t => l.getD t 0
abbrev rm_C5 : Room := { frames := 5, cells := 60, slots := 508, locals := 94 }
section CTOR5
variable {p : Program} {l : Launch} {e : Env} {s : State} {m : MethodId} {below : List Frame} {meth : Method} {c : Code} {Q : State → Prop}

set_option maxRecDepth 100000 in
theorem k_X5_loop1 (E : gE) (X w0 : va_W) (a n b c1 : Nat) {args : Array Value} (h : lO p s m args c cX5_init 2 RX5 wsX5_init E (va_A w0 s.heap.size))
    (hend : ∀ bf : Nat → Nat → Nat, GL p l e rm_C5 s m args below meth c Q E (va_A w0 s.heap.size) 2 27 300 (X ++ ((a, .inr (6, [.ref n, .ref c1, .null])) :: (n, .inr (4, [.ref b])) :: (b, .inr (0, [.int (nI 0), .ref E.z, .int 0])) :: (c1, .inl (E.cid 2, 4, .inr (.inr (.inr (.inr (k_car bf 4)))))) :: k_cbl E n bf 4 : va_W)) 54 [(0, .ref a)] []) :
    ∀ (r i : Nat) (bf : Nat → Nat → Nat), i + r = 4 → GL p l e rm_C5 s m args below meth c Q E (va_A w0 s.heap.size) 2 (3 + 6 * i) (8 + 73 * i) (X ++ ((a, .inr (6, [.ref n, .ref c1, .null])) :: (n, .inr (4, [.ref b])) :: (b, .inr (0, [.int (nI 0), .ref E.z, .int 0])) :: (c1, .inl (E.cid 2, 4, .inr (.inr (.inr (.inr (k_car bf i)))))) :: k_cbl E n bf i : va_W)) 25 [(0, .ref a), (1, .int (nI i))] [] := by
  intro r
  induction r with
  | zero =>
    intro i bf hi
    have hi : i = 4 := by omega
    subst hi
    refine l_iload_n h 1 dX5_init_25 rfl rfl ?_
    refine l_iconst (v := nI 4) h dX5_init_26 (by decide) ?_
    refine l_icmp_geN h 54 dX5_init_27 (by decide) (by omega) (by omega) (fun _ => ?_) (fun z => absurd (Nat.le_refl _) z)
    exact fun H locs ls hP hD hS hl => hend bf H locs ls hP hD hS (lv_sub hl [0] rfl)
  | succ r ih =>
    intro i bf hi
    refine l_iload_n h 1 dX5_init_25 rfl rfl ?_
    refine l_iconst (v := nI 4) h dX5_init_26 (by decide) ?_
    refine l_icmp_geN h 54 dX5_init_27 (by decide) (by omega) (by omega) (fun z => absurd z (by omega)) (fun _ => ?_)
    refine l_aload_n h 0 dX5_init_30 rfl rfl ?_
    refine l_get (X := X) (C := RX5) (T := TX5) (N := 3) h 0 1 rfl rfl (by decide +kernel) (by decide) (by decide +kernel) rfl rfl dX5_init_31 ?_
    refine l_iload_n h 1 dX5_init_34 rfl rfl ?_
    refine l_new (w := X ++ ((a, .inr (6, [.ref n, .ref c1, .null])) :: (n, .inr (4, [.ref b])) :: (b, .inr (0, [.int (nI 0), .ref E.z, .int 0])) :: (c1, .inl (E.cid 2, 4, .inr (.inr (.inr (.inr (k_car bf i)))))) :: k_cbl E n bf i : va_W)) (ci := 1) (fs := [.int 0, .null, .null, .null, .null, .null, .null, .int 0, .int 0, .int 0, .int 0, .int 0, .int 0, .int 0]) (C := RX0) (T := TX0) (N := 14) h tyX0 rfl (by decide +kernel) tyX0_ok (by decide +kernel) (by decide +kernel) (by decide +kernel) (fun j hj => by rcases (show j = 0 ∨ j = 1 ∨ j = 2 ∨ j = 3 ∨ j = 4 ∨ j = 5 ∨ j = 6 ∨ j = 7 ∨ j = 8 ∨ j = 9 ∨ j = 10 ∨ j = 11 ∨ j = 12 ∨ j = 13 by omega) with rfl | rfl | rfl | rfl | rfl | rfl | rfl | rfl | rfl | rfl | rfl | rfl | rfl | rfl <;> rfl) (by show _ ≤ 60; omega) (by show _ ≤ 508; omega) dX5_init_35 (fun q => ?_)
    refine l_dup h dX5_init_38 rfl ?_
    refine l_iload_n h 1 dX5_init_39 rfl rfl ?_
    refine l_aload_n h 0 dX5_init_40 rfl rfl ?_
    refine l_w (w' := X ++ ((a, .inr (6, [.ref n, .ref c1, .null])) :: (n, .inr (4, [.ref b])) :: (b, .inr (0, [.int (nI 0), .ref E.z, .int 0])) :: (c1, .inl (E.cid 2, 4, .inr (.inr (.inr (.inr (k_car bf i)))))) :: (k_cbl E n bf i ++ ([(q, .inr (1, [.int 0, .null, .null, .null, .null, .null, .null, .int 0, .int 0, .int 0, .int 0, .int 0, .int 0, .int 0]))] : va_W)) : va_W)) (List.append_assoc ..) ?_
    refine l_get (X := X) (C := RX5) (T := TX5) (N := 3) h 0 0 rfl rfl (by decide +kernel) (by decide) (by decide +kernel) rfl rfl dX5_init_41 ?_
    refine l_w (w' := (X ++ ((a, .inr (6, [.ref n, .ref c1, .null])) :: (n, .inr (4, [.ref b])) :: (b, .inr (0, [.int (nI 0), .ref E.z, .int 0])) :: (c1, .inl (E.cid 2, 4, .inr (.inr (.inr (.inr (k_car bf i)))))) :: k_cbl E n bf i : va_W)) ++ ([(q, .inr (1, [.int 0, .null, .null, .null, .null, .null, .null, .int 0, .int 0, .int 0, .int 0, .int 0, .int 0, .int 0]))] : va_W)) (List.append_assoc X ((a, .inr (6, [.ref n, .ref c1, .null])) :: (n, .inr (4, [.ref b])) :: (b, .inr (0, [.int (nI 0), .ref E.z, .int 0])) :: (c1, .inl (E.cid 2, 4, .inr (.inr (.inr (.inr (k_car bf i)))))) :: k_cbl E n bf i) [(q, .inr (1, [.int 0, .null, .null, .null, .null, .null, .null, .int 0, .int 0, .int 0, .int 0, .int 0, .int 0, .int 0]))]).symm ?_
    refine l_callI (As := [.int (nI i), .ref n]) h 2 (k_X0 l E _ q n (nI i)) rfl gX5_init_X0_init rfl rfl rfl rfl (by decide +kernel) (by decide +kernel) (by decide +kernel) rfl (by decide +kernel) ⟨Nat.le_of_ble_eq_true rfl, Nat.le_of_ble_eq_true rfl⟩ dX5_init_44 ⟨by show _ ≤ 60; omega, by show _ ≤ 508; omega⟩ (Nat.le_of_ble_eq_true rfl) ?_
    rintro _ _ ⟨rfl, q0, q1, q2, q3, q4, rfl⟩
    dsimp only [Option.toList, List.nil_append]
    refine l_w (w' := X ++ ((a, .inr (6, [.ref n, .ref c1, .null])) :: (n, .inr (4, [.ref b])) :: (b, .inr (0, [.int (nI 0), .ref E.z, .int 0])) :: (c1, .inl (E.cid 2, 4, .inr (.inr (.inr (.inr (k_car bf i)))))) :: (k_cbl E n bf i ++ k_cb E n i (k_bl [q, q0, q1, q2, q3, q4])) : va_W)) (List.append_assoc ..) ?_
    refine l_astq (X := X) (L' := ((a, .inr (6, [.ref n, .ref c1, .null])) :: (n, .inr (4, [.ref b])) :: (b, .inr (0, [.int (nI 0), .ref E.z, .int 0])) :: (c1, .inl (E.cid 2, 4, .inr (.inr (.inr (.inr (va_up (k_car bf i) i (some q))))))) :: (k_cbl E n bf i ++ k_cb E n i (k_bl [q, q0, q1, q2, q3, q4])))) h 3 2 _ rfl rfl (k_mid [(a, .inr (6, [.ref n, .ref c1, .null])), (n, .inr (4, [.ref b])), (b, .inr (0, [.int (nI 0), .ref E.z, .int 0])), (c1, .inl (E.cid 2, 4, .inr (.inr (.inr (.inr (k_car bf i))))))] (k_cbl E n bf i) _ _) rfl rfl (by omega) (by omega) dX5_init_47 ?_
    refine l_w (w' := X ++ ((a, .inr (6, [.ref n, .ref c1, .null])) :: (n, .inr (4, [.ref b])) :: (b, .inr (0, [.int (nI 0), .ref E.z, .int 0])) :: (c1, .inl (E.cid 2, 4, .inr (.inr (.inr (.inr (k_car (va_up bf i (k_bl [q, q0, q1, q2, q3, q4])) (i + 1))))))) :: k_cbl E n (va_up bf i (k_bl [q, q0, q1, q2, q3, q4])) (i + 1) : va_W)) (by rw [← k_cbl_s, ← k_car_s]; rfl) ?_
    refine l_iinc (lv' := [(0, .ref a), (1, .int (nI (i + 1)))]) h 1 [1, 0] dX5_init_48 rfl (nI_add _ 1) (by decide) rfl ?_
    refine l_goto h 25 dX5_init_51 (by decide) ?_
    refine l_wide (k := 3 + 6 * (i + 1)) (n := 8 + 73 * (i + 1)) (by omega) (by omega) ?_
    exact ih (i + 1) _ (by omega)
set_option maxRecDepth 100000 in
theorem k_X5_loop2 (E : gE) (X w0 : va_W) (a n b c1 h1 : Nat) (bf : Nat → Nat → Nat) {args : Array Value} (h : lO p s m args c cX5_init 2 RX5 wsX5_init E (va_A w0 s.heap.size))
    (hend : ∀ hf : Nat → Nat → Nat, GL p l e rm_C5 s m args below meth c Q E (va_A w0 s.heap.size) 2 60 508 (X ++ ((a, .inr (6, [.ref n, .ref c1, .ref h1])) :: (n, .inr (4, [.ref b])) :: (b, .inr (0, [.int (nI 0), .ref E.z, .int 0])) :: (c1, .inl (E.cid 2, 4, .inr (.inr (.inr (.inr (k_car bf 4)))))) :: (k_cbl E n bf 4 ++ ((h1, .inl (E.cid 3, 16, .inr (.inr (.inr (.inr (k_car hf 16)))))) :: k_hbl E n hf 16 : va_W)) : va_W)) 95 [(0, .ref a)] []) :
    ∀ (r i : Nat) (hf : Nat → Nat → Nat), i + r = 16 → GL p l e rm_C5 s m args below meth c Q E (va_A w0 s.heap.size) 2 (28 + 2 * i) (316 + 12 * i) (X ++ ((a, .inr (6, [.ref n, .ref c1, .ref h1])) :: (n, .inr (4, [.ref b])) :: (b, .inr (0, [.int (nI 0), .ref E.z, .int 0])) :: (c1, .inl (E.cid 2, 4, .inr (.inr (.inr (.inr (k_car bf 4)))))) :: (k_cbl E n bf 4 ++ ((h1, .inl (E.cid 3, 16, .inr (.inr (.inr (.inr (k_car hf i)))))) :: k_hbl E n hf i : va_W)) : va_W)) 65 [(0, .ref a), (1, .int (nI i))] [] := by
  intro r
  induction r with
  | zero =>
    intro i hf hi
    have hi : i = 16 := by omega
    subst hi
    refine l_iload_n h 1 dX5_init_65 rfl rfl ?_
    refine l_bipush (v := nI 16) h dX5_init_66 (by decide) ?_
    refine l_icmp_geN h 95 dX5_init_68 (by decide) (by omega) (by omega) (fun _ => ?_) (fun z => absurd (Nat.le_refl _) z)
    exact fun H locs ls hP hD hS hl => hend hf H locs ls hP hD hS (lv_sub hl [0] rfl)
  | succ r ih =>
    intro i hf hi
    refine l_iload_n h 1 dX5_init_65 rfl rfl ?_
    refine l_bipush (v := nI 16) h dX5_init_66 (by decide) ?_
    refine l_icmp_geN h 95 dX5_init_68 (by decide) (by omega) (by omega) (fun z => absurd z (by omega)) (fun _ => ?_)
    refine l_aload_n h 0 dX5_init_71 rfl rfl ?_
    refine l_get (X := X) (C := RX5) (T := TX5) (N := 3) h 0 2 rfl rfl (by decide +kernel) (by decide) (by decide +kernel) rfl rfl dX5_init_72 ?_
    refine l_iload_n h 1 dX5_init_75 rfl rfl ?_
    refine l_new (w := X ++ ((a, .inr (6, [.ref n, .ref c1, .ref h1])) :: (n, .inr (4, [.ref b])) :: (b, .inr (0, [.int (nI 0), .ref E.z, .int 0])) :: (c1, .inl (E.cid 2, 4, .inr (.inr (.inr (.inr (k_car bf 4)))))) :: (k_cbl E n bf 4 ++ ((h1, .inl (E.cid 3, 16, .inr (.inr (.inr (.inr (k_car hf i)))))) :: k_hbl E n hf i : va_W)) : va_W)) (ci := 2) (fs := [.int 0, .null, .null, .int 0, .int 0, .int 0, .int 0, .int 0, .int 0]) (C := RX1) (T := TX1) (N := 9) h tyX1 rfl (by decide +kernel) tyX1_ok (by decide +kernel) (by decide +kernel) (by decide +kernel) (fun j hj => by rcases (show j = 0 ∨ j = 1 ∨ j = 2 ∨ j = 3 ∨ j = 4 ∨ j = 5 ∨ j = 6 ∨ j = 7 ∨ j = 8 by omega) with rfl | rfl | rfl | rfl | rfl | rfl | rfl | rfl | rfl <;> rfl) (by show _ ≤ 60; omega) (by show _ ≤ 508; omega) dX5_init_76 (fun q => ?_)
    refine l_dup h dX5_init_79 rfl ?_
    refine l_iload_n h 1 dX5_init_80 rfl rfl ?_
    refine l_aload_n h 0 dX5_init_81 rfl rfl ?_
    refine l_w (w' := X ++ (((a, .inr (6, [.ref n, .ref c1, .ref h1])) :: (n, .inr (4, [.ref b])) :: (b, .inr (0, [.int (nI 0), .ref E.z, .int 0])) :: (c1, .inl (E.cid 2, 4, .inr (.inr (.inr (.inr (k_car bf 4)))))) :: (k_cbl E n bf 4 ++ ((h1, .inl (E.cid 3, 16, .inr (.inr (.inr (.inr (k_car hf i)))))) :: k_hbl E n hf i : va_W)) : va_W) ++ ([(q, .inr (2, [.int 0, .null, .null, .int 0, .int 0, .int 0, .int 0, .int 0, .int 0]))] : va_W))) (List.append_assoc ..) ?_
    refine l_get (X := X) (C := RX5) (T := TX5) (N := 3) h 0 0 rfl rfl (by decide +kernel) (by decide) (by decide +kernel) rfl rfl dX5_init_82 ?_
    refine l_w (w' := (X ++ ((a, .inr (6, [.ref n, .ref c1, .ref h1])) :: (n, .inr (4, [.ref b])) :: (b, .inr (0, [.int (nI 0), .ref E.z, .int 0])) :: (c1, .inl (E.cid 2, 4, .inr (.inr (.inr (.inr (k_car bf 4)))))) :: (k_cbl E n bf 4 ++ ((h1, .inl (E.cid 3, 16, .inr (.inr (.inr (.inr (k_car hf i)))))) :: k_hbl E n hf i : va_W)) : va_W)) ++ ([(q, .inr (2, [.int 0, .null, .null, .int 0, .int 0, .int 0, .int 0, .int 0, .int 0]))] : va_W)) (List.append_assoc ..).symm ?_
    refine l_callI (As := [.int (nI i), .ref n]) h 2 (k_X1 l E _ q n (nI i)) rfl gX5_init_X1_init rfl rfl rfl rfl (by decide +kernel) (by decide +kernel) (by decide +kernel) rfl (by decide +kernel) ⟨Nat.le_of_ble_eq_true rfl, Nat.le_of_ble_eq_true rfl⟩ dX5_init_85 ⟨by show _ ≤ 60; omega, by show _ ≤ 508; omega⟩ (Nat.le_of_ble_eq_true rfl) ?_
    rintro _ _ ⟨rfl, q0, rfl⟩
    dsimp only [Option.toList, List.nil_append]
    refine l_w (w' := X ++ ((a, .inr (6, [.ref n, .ref c1, .ref h1])) :: (n, .inr (4, [.ref b])) :: (b, .inr (0, [.int (nI 0), .ref E.z, .int 0])) :: (c1, .inl (E.cid 2, 4, .inr (.inr (.inr (.inr (k_car bf 4)))))) :: (k_cbl E n bf 4 ++ ((h1, .inl (E.cid 3, 16, .inr (.inr (.inr (.inr (k_car hf i)))))) :: (k_hbl E n hf i ++ k_hb E n i (k_bl [q, q0])) : va_W)) : va_W)) (List.append_assoc ..) ?_
    refine l_astq (X := X) (L' := ((a, .inr (6, [.ref n, .ref c1, .ref h1])) :: (n, .inr (4, [.ref b])) :: (b, .inr (0, [.int (nI 0), .ref E.z, .int 0])) :: (c1, .inl (E.cid 2, 4, .inr (.inr (.inr (.inr (k_car bf 4)))))) :: (k_cbl E n bf 4 ++ ((h1, .inl (E.cid 3, 16, .inr (.inr (.inr (.inr (va_up (k_car hf i) i (some q))))))) :: (k_hbl E n hf i ++ k_hb E n i (k_bl [q, q0])) : va_W)) : va_W)) h 28 3 _ rfl rfl (k_mid ((a, .inr (6, [.ref n, .ref c1, .ref h1])) :: (n, .inr (4, [.ref b])) :: (b, .inr (0, [.int (nI 0), .ref E.z, .int 0])) :: (c1, .inl (E.cid 2, 4, .inr (.inr (.inr (.inr (k_car bf 4)))))) :: (k_cbl E n bf 4 ++ [(h1, .inl (E.cid 3, 16, .inr (.inr (.inr (.inr (k_car hf i))))))])) (k_hbl E n hf i) _ _) rfl rfl (by omega) (by omega) dX5_init_88 ?_
    refine l_w (w' := X ++ ((a, .inr (6, [.ref n, .ref c1, .ref h1])) :: (n, .inr (4, [.ref b])) :: (b, .inr (0, [.int (nI 0), .ref E.z, .int 0])) :: (c1, .inl (E.cid 2, 4, .inr (.inr (.inr (.inr (k_car bf 4)))))) :: (k_cbl E n bf 4 ++ ((h1, .inl (E.cid 3, 16, .inr (.inr (.inr (.inr (k_car (va_up hf i (k_bl [q, q0])) (i + 1))))))) :: k_hbl E n (va_up hf i (k_bl [q, q0])) (i + 1) : va_W)) : va_W)) (by rw [← k_hbl_s, ← k_car_s]; rfl) ?_
    refine l_iinc (lv' := [(0, .ref a), (1, .int (nI (i + 1)))]) h 1 [1, 0] dX5_init_89 rfl (nI_add _ 1) (by decide) rfl ?_
    refine l_goto h 65 dX5_init_92 (by decide) ?_
    refine l_wide (k := 28 + 2 * (i + 1)) (n := 316 + 12 * (i + 1)) (by omega) (by omega) ?_
    exact ih (i + 1) _ (by omega)
end CTOR5
set_option maxRecDepth 100000 in
theorem k_X5 (l : Launch) (E : gE) (X : va_W) (a : Nat) : CL l yX5_init wsX5_init rm_C5 E [.ref a] (X ++ [(a, .inr (6, [.null, .null, .null]))]) (fun v w' => v = none ∧ ∃ (n b c1 h1 : Nat) (bf hf : Nat → Nat → Nat), w' = X ++ ((a, .inr (6, [.ref n, .ref c1, .ref h1])) :: (n, .inr (4, [.ref b])) :: (b, .inr (0, [.int (nI 0), .ref E.z, .int 0])) :: (c1, .inl (E.cid 2, 4, .inr (.inr (.inr (.inr (k_car bf 4)))))) :: (k_cbl E n bf 4 ++ ((h1, .inl (E.cid 3, 16, .inr (.inr (.inr (.inr (k_car hf 16)))))) :: k_hbl E n hf 16 : va_W)) : va_W)) 60 508 := by
  refine CL.of (cc := cX5_init) (nL := 2) (ret := none) (by decide) rfl (Nat.le_of_ble_eq_true rfl) ?_
  intro p e s m args below meth c h hr hk hin
  show GL _ _ _ _ _ _ _ _ _ _ _ _ _ _ _ _ (X ++ [(a, .inr (6, [.null, .null, .null]))]) 0 [(0, .ref a)] []
  refine l_aload_n h 0 dX5_init_0 rfl rfl ?_
  refine l_objInit h (by decide +kernel) (by decide +kernel) (by decide +kernel) (Nat.le_of_ble_eq_true rfl) (Nat.le_of_ble_eq_true rfl) dX5_init_1 ?_
  refine l_aload_n h 0 dX5_init_4 rfl rfl ?_
  refine l_new (ci := 4) (fs := [.null]) (C := RX3) (T := TX3) (N := 1) h tyX3 rfl (by decide +kernel) tyX3_ok (by decide +kernel) (by decide +kernel) (by decide +kernel) (fun j hj => by rcases (show j = 0 by omega) with rfl <;> rfl) (Nat.le_of_ble_eq_true rfl) (Nat.le_of_ble_eq_true rfl) dX5_init_5 (fun q0 => ?_)
  refine l_w (w' := X ++ [(a, .inr (6, [.null, .null, .null])), (q0, .inr (4, [.null]))]) (List.append_assoc ..) ?_
  refine l_dup h dX5_init_8 rfl ?_
  refine l_w (w' := (X ++ ([(a, .inr (6, [.null, .null, .null]))] : va_W)) ++ ([(q0, .inr (4, [.null]))] : va_W)) (List.append_assoc X [(a, .inr (6, [.null, .null, .null]))] [(q0, .inr (4, [.null]))]).symm ?_
  refine l_callIN (As := []) h 0 (k_X3 l E _ q0) rfl gX5_init_X3_init_n9 rfl rfl rfl rfl (by decide +kernel) h.2.2.2.2.2.2.2.1.1 (by decide +kernel) rfl (by decide +kernel) ⟨Nat.le_of_ble_eq_true rfl, Nat.le_of_ble_eq_true rfl⟩ dX5_init_9 ⟨Nat.le_of_ble_eq_true rfl, Nat.le_of_ble_eq_true rfl⟩ (Nat.le_of_ble_eq_true rfl) ?_
  rintro _ _ ⟨rfl, b, rfl⟩
  dsimp only [Option.toList, List.nil_append]
  refine l_w (w' := X ++ [(a, .inr (6, [.null, .null, .null])), (q0, .inr (4, [.ref b])), (b, .inr (0, [.int (nI 0), .ref E.z, .int 0]))]) (List.append_assoc ..) ?_
  refine l_putF (X := X) (L' := [(a, .inr (6, [.ref q0, .null, .null])), (q0, .inr (4, [.ref b])), (b, .inr (0, [.int (nI 0), .ref E.z, .int 0]))]) (C := RX5) (T := TX5) (N := 3) h 0 0 tyX5 rfl rfl rfl (by decide +kernel) tyX5_ok nmX5 (by decide) (by decide +kernel) rfl rfl hin rfl rfl rfl rfl (Nat.le_of_ble_eq_true rfl) dX5_init_12 ?_
  refine l_aload_n h 0 dX5_init_15 rfl rfl ?_
  refine l_iconst (v := nI 4) h dX5_init_16 (by decide) ?_
  refine l_newq (n := 4) h 2 rfl rfl (h.2.2.2.2.2.2.2.1.2.2.1) (by decide +kernel) (by omega) (Nat.le_of_ble_eq_true rfl) (Nat.le_of_ble_eq_true rfl) dX5_init_17 (fun q1 => ?_)
  refine l_w (w' := X ++ [(a, .inr (6, [.ref q0, .null, .null])), (q0, .inr (4, [.ref b])), (b, .inr (0, [.int (nI 0), .ref E.z, .int 0])), (q1, .inl (E.cid 2, 4, .inr (.inr (.inr (.inr (fun _ => none))))))]) (List.append_assoc ..) ?_
  refine l_putF (X := X) (L' := [(a, .inr (6, [.ref q0, .ref q1, .null])), (q0, .inr (4, [.ref b])), (b, .inr (0, [.int (nI 0), .ref E.z, .int 0])), (q1, .inl (E.cid 2, 4, .inr (.inr (.inr (.inr (fun _ => none))))))]) (C := RX5) (T := TX5) (N := 3) h 0 1 tyX5 rfl rfl rfl (by decide +kernel) tyX5_ok nmX5 (by decide) (by decide +kernel) rfl rfl hin rfl rfl rfl rfl (Nat.le_of_ble_eq_true rfl) dX5_init_20 ?_
  refine l_iconst (v := nI 0) h dX5_init_23 (by decide) ?_
  refine l_istore_n (lv' := [(0, .ref a), (1, .int (nI 0))]) h [1, 0] dX5_init_24 rfl (by decide) rfl ?_
  refine l_w (w' := X ++ ((a, .inr (6, [.ref q0, .ref q1, .null])) :: (q0, .inr (4, [.ref b])) :: (b, .inr (0, [.int (nI 0), .ref E.z, .int 0])) :: (q1, .inl (E.cid 2, 4, .inr (.inr (.inr (.inr (k_car (fun _ _ => 0) 0)))))) :: k_cbl E q0 (fun _ _ => 0) 0)) (by rw [← k_car_z]; rfl) ?_
  refine k_X5_loop1 E X _ a q0 b q1 h (fun bf => ?_) 4 0 _ rfl
  refine l_aload_n h 0 dX5_init_54 rfl rfl ?_
  refine l_bipush (v := nI 16) h dX5_init_55 (by decide) ?_
  refine l_newq (n := 16) h 3 rfl rfl (h.2.2.2.2.2.2.2.1.2.2.2) (by decide +kernel) (by omega) (Nat.le_of_ble_eq_true rfl) (Nat.le_of_ble_eq_true rfl) dX5_init_57 (fun h1 => ?_)
  refine l_w (w' := X ++ ((a, .inr (6, [.ref q0, .ref q1, .null])) :: (q0, .inr (4, [.ref b])) :: (b, .inr (0, [.int (nI 0), .ref E.z, .int 0])) :: (q1, .inl (E.cid 2, 4, .inr (.inr (.inr (.inr (k_car bf 4)))))) :: (k_cbl E q0 bf 4 ++ ([(h1, .inl (E.cid 3, 16, .inr (.inr (.inr (.inr (fun _ => none))))))] : va_W)) : va_W)) (List.append_assoc ..) ?_
  refine l_putF (X := X) (L' := ((a, .inr (6, [.ref q0, .ref q1, .ref h1])) :: (q0, .inr (4, [.ref b])) :: (b, .inr (0, [.int (nI 0), .ref E.z, .int 0])) :: (q1, .inl (E.cid 2, 4, .inr (.inr (.inr (.inr (k_car bf 4)))))) :: (k_cbl E q0 bf 4 ++ ([(h1, .inl (E.cid 3, 16, .inr (.inr (.inr (.inr (fun _ => none))))))] : va_W)) : va_W)) (C := RX5) (T := TX5) (N := 3) h 0 2 tyX5 rfl rfl rfl (by decide +kernel) tyX5_ok nmX5 (by decide) (by decide +kernel) rfl rfl hin rfl rfl rfl rfl (Nat.le_of_ble_eq_true rfl) dX5_init_60 ?_
  refine l_iconst (v := nI 0) h dX5_init_63 (by decide) ?_
  refine l_istore_n (lv' := [(0, .ref a), (1, .int (nI 0))]) h [1, 0] dX5_init_64 rfl (by decide) rfl ?_
  refine l_w (w' := X ++ ((a, .inr (6, [.ref q0, .ref q1, .ref h1])) :: (q0, .inr (4, [.ref b])) :: (b, .inr (0, [.int (nI 0), .ref E.z, .int 0])) :: (q1, .inl (E.cid 2, 4, .inr (.inr (.inr (.inr (k_car bf 4)))))) :: (k_cbl E q0 bf 4 ++ ((h1, .inl (E.cid 3, 16, .inr (.inr (.inr (.inr (k_car (fun _ _ => 0) 0)))))) :: k_hbl E q0 (fun _ _ => 0) 0 : va_W)) : va_W)) (by rw [← k_car_z]; rfl) ?_
  refine k_X5_loop2 E X _ a q0 b q1 h1 bf h (fun hf => ?_) 16 0 _ rfl
  exact l_vret h hr hk dX5_init_95 (Nat.le_refl _) (Nat.le_refl _) ⟨rfl, q0, b, q1, h1, bf, hf, rfl⟩
