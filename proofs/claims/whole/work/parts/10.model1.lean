/-- the number that an int stands for -/
abbrev nat (a : Int32) : Nat := a.toNatClampNeg
/-- not a cache's number, not a line's -/
abbrev badC (a : Int32) : Prop := a < 0 ∨ nI 4 ≤ a
abbrev badL (a : Int32) : Prop := a < 0 ∨ nI 16 ≤ a
theorem in_X6_thrown_X6 : ∀ w ∈ wsX60, w ∈ wsX6_thrown := by decide +kernel
theorem lk_X6_thrown_83 : Cond.fieldLink RX6 83 "CacheDirectoryModel" "thrown" "I" ∈ wsX6_thrown := by decide +kernel
def r_X6_thrown (x : St)  : Int32 :=
  x.FM 0
set_option maxRecDepth 100000 in
set_option maxHeartbeats 4000000 in
theorem c_X6_thrown (l : Launch) (E : gE) (x : St)   : Ct l yX6_thrown wsX6_thrown { frames := 0, cells := 0, slots := 0, locals := 0 } E [.ref (aM E)] x (fun v y => v = some (.int (r_X6_thrown x )) ∧ y = x) 0 0 := by
  refine Ct.of (cc := cX6_thrown) (nL := 1) (ret := (some .int)) (by decide) rfl (Nat.le_of_ble_eq_true rfl) ?_
  intro p e s m args below meth c h hr hk hname
  refine g_lvs (lv' := [(0, _)]) rfl ?_
  refine g_aload_n h 0 dX6_thrown_0 rfl rfl ?_
  refine g_get (C := RX6) (T := TX6) (N := 29) h 0 (wat_M E _) rfl in_X6_thrown_X6 (by decide) lk_X6_thrown_83 rfl rfl dX6_thrown_1 ?_
  exact g_iret h hr hk dX6_thrown_4 (Nat.zero_le _) (Nat.zero_le _) ⟨congrArg (fun z => some (Value.int z)) (Eq.symm rfl), rfl⟩
theorem in_X6_fail_X6 : ∀ w ∈ wsX60, w ∈ wsX6_fail := by decide +kernel
theorem lk_X6_fail_83 : Cond.fieldLink RX6 83 "CacheDirectoryModel" "thrown" "I" ∈ wsX6_fail := by decide +kernel
def s_X6_fail (x : St) (a : Int32) : St :=
  let x1 := x.setFM 0 a
  x1
set_option maxRecDepth 100000 in
set_option maxHeartbeats 4000000 in
theorem c_X6_fail (l : Launch) (E : gE) (x : St) (a : Int32)  : Ct l yX6_fail wsX6_fail { frames := 0, cells := 0, slots := 0, locals := 0 } E [.ref (aM E), .int a] x (fun v y => v = some (.int (nI 0)) ∧ y = s_X6_fail x a) 0 0 := by
  refine Ct.of (cc := cX6_fail) (nL := 2) (ret := (some .int)) (by decide) rfl (Nat.le_of_ble_eq_true rfl) ?_
  intro p e s m args below meth c h hr hk hname
  refine g_lvs (lv' := [(0, _), (1, _)]) rfl ?_
  refine g_aload_n h 0 dX6_fail_0 rfl rfl ?_
  refine g_iload_n h 1 dX6_fail_1 rfl rfl ?_
  refine g_put (C := RX6) (T := TX6) (N := 29) h 0 tyX6 (ws_M0 E _ _) rfl in_X6_fail_X6 tyX6_ok nmX6 (by decide) lk_X6_fail_83 rfl rfl rfl rfl rfl (Nat.le_of_ble_eq_true rfl) dX6_fail_2 ?_
  refine g_iconst (v := nI 0) h dX6_fail_5 (by decide) ?_
  exact g_iret h hr hk dX6_fail_6 (Nat.zero_le _) (Nat.zero_le _) ⟨rfl, Eq.symm rfl⟩
theorem in_X6_failed_X6 : ∀ w ∈ wsX60, w ∈ wsX6_failed := by decide +kernel
theorem lk_X6_failed_83 : Cond.fieldLink RX6 83 "CacheDirectoryModel" "thrown" "I" ∈ wsX6_failed := by decide +kernel
def s_X6_failed (x : St) (a : Int32) : St :=
  let x1 := x.setFM 0 a
  x1
set_option maxRecDepth 100000 in
set_option maxHeartbeats 4000000 in
theorem c_X6_failed (l : Launch) (E : gE) (x : St) (a : Int32)  : Ct l yX6_failed wsX6_failed { frames := 0, cells := 0, slots := 0, locals := 0 } E [.ref (aM E), .int a] x (fun v y => v = some (.int (nI 0)) ∧ y = s_X6_failed x a) 0 0 := by
  refine Ct.of (cc := cX6_failed) (nL := 2) (ret := (some .boolean)) (by decide) rfl (Nat.le_of_ble_eq_true rfl) ?_
  intro p e s m args below meth c h hr hk hname
  refine g_lvs (lv' := [(0, _), (1, _)]) rfl ?_
  refine g_aload_n h 0 dX6_failed_0 rfl rfl ?_
  refine g_iload_n h 1 dX6_failed_1 rfl rfl ?_
  refine g_put (C := RX6) (T := TX6) (N := 29) h 0 tyX6 (ws_M0 E _ _) rfl in_X6_failed_X6 tyX6_ok nmX6 (by decide) lk_X6_failed_83 rfl rfl rfl rfl rfl (Nat.le_of_ble_eq_true rfl) dX6_failed_2 ?_
  refine g_iconst (v := nI 0) h dX6_failed_5 (by decide) ?_
  exact g_zret h hr hk (by decide) dX6_failed_6 (Nat.zero_le _) (Nat.zero_le _) ⟨rfl, Eq.symm rfl⟩
set_option maxRecDepth 100000 in
set_option maxHeartbeats 4000000 in
theorem c_X6_isCache_t (l : Launch) (E : gE) (x : St) (i : Nat) (hi : i < 4) : Ct l yX6_isCache wsX6_isCache { frames := 0, cells := 0, slots := 0, locals := 0 } E [.int (nI i)] x (fun v y => v = some (.int (nI 1)) ∧ y = x) 0 0 := by
  refine Ct.of (cc := cX6_isCache) (nL := 1) (ret := (some .boolean)) (by decide) rfl (Nat.le_of_ble_eq_true rfl) ?_
  intro p e s m args below meth c h hr hk hname
  refine g_lvs (lv' := [(0, _)]) rfl ?_
  refine g_iload_n h 0 dX6_isCache_0 rfl rfl ?_
  refine g_if_lt h 13 dX6_isCache_1 (by decide) (fun c_1 => absurd c_1 (nI_pos (by omega))) (fun c_1 => ?_)
  refine g_iload_n h 0 dX6_isCache_4 rfl rfl ?_
  refine g_iconst (v := nI 4) h dX6_isCache_5 (by decide) ?_
  refine g_icmp_geN h 13 dX6_isCache_6 (by decide) (by omega) (by omega) (fun c_6 => absurd c_6 (by omega)) (fun c_6 => ?_)
  refine g_iconst (v := nI 1) h dX6_isCache_9 (by decide) ?_
  refine g_goto h 14 dX6_isCache_10 (by decide) ?_
  exact g_zret h hr hk (by decide) dX6_isCache_14 (Nat.zero_le _) (Nat.zero_le _) ⟨rfl, rfl⟩
set_option maxRecDepth 100000 in
set_option maxHeartbeats 4000000 in
theorem c_X6_isCache_f (l : Launch) (E : gE) (x : St) (a : Int32) (ha : badC a) : Ct l yX6_isCache wsX6_isCache { frames := 0, cells := 0, slots := 0, locals := 0 } E [.int a] x (fun v y => v = some (.int (nI 0)) ∧ y = x) 0 0 := by
  refine Ct.of (cc := cX6_isCache) (nL := 1) (ret := (some .boolean)) (by decide) rfl (Nat.le_of_ble_eq_true rfl) ?_
  intro p e s m args below meth c h hr hk hname
  refine g_lvs (lv' := [(0, _)]) rfl ?_
  refine g_iload_n h 0 dX6_isCache_0 rfl rfl ?_
  refine g_if_lt h 13 dX6_isCache_1 (by decide) (fun c_1 => ?_) (fun c_1 => ?_)
  · skip
    refine g_iconst (v := nI 0) h dX6_isCache_13 (by decide) ?_
    exact g_zret h hr hk (by decide) dX6_isCache_14 (Nat.zero_le _) (Nat.zero_le _) ⟨rfl, rfl⟩
  · skip
    refine g_iload_n h 0 dX6_isCache_4 rfl rfl ?_
    refine g_iconst (v := nI 4) h dX6_isCache_5 (by decide) ?_
    refine g_icmp_ge h 13 dX6_isCache_6 (by decide) (fun c_6 => ?_) (fun c_6 => absurd c_6 (fun q => q (ha.resolve_left c_1)))
    refine g_iconst (v := nI 0) h dX6_isCache_13 (by decide) ?_
    exact g_zret h hr hk (by decide) dX6_isCache_14 (Nat.zero_le _) (Nat.zero_le _) ⟨rfl, rfl⟩
set_option maxRecDepth 100000 in
set_option maxHeartbeats 4000000 in
theorem c_X6_isLine_t (l : Launch) (E : gE) (x : St) (i : Nat) (hi : i < 16) : Ct l yX6_isLine wsX6_isLine { frames := 0, cells := 0, slots := 0, locals := 0 } E [.int (nI i)] x (fun v y => v = some (.int (nI 1)) ∧ y = x) 0 0 := by
  refine Ct.of (cc := cX6_isLine) (nL := 1) (ret := (some .boolean)) (by decide) rfl (Nat.le_of_ble_eq_true rfl) ?_
  intro p e s m args below meth c h hr hk hname
  refine g_lvs (lv' := [(0, _)]) rfl ?_
  refine g_iload_n h 0 dX6_isLine_0 rfl rfl ?_
  refine g_if_lt h 14 dX6_isLine_1 (by decide) (fun c_1 => absurd c_1 (nI_pos (by omega))) (fun c_1 => ?_)
  refine g_iload_n h 0 dX6_isLine_4 rfl rfl ?_
  refine g_bipush (v := nI 16) h dX6_isLine_5 (by decide) ?_
  refine g_icmp_geN h 14 dX6_isLine_7 (by decide) (by omega) (by omega) (fun c_7 => absurd c_7 (by omega)) (fun c_7 => ?_)
  refine g_iconst (v := nI 1) h dX6_isLine_10 (by decide) ?_
  refine g_goto h 15 dX6_isLine_11 (by decide) ?_
  exact g_zret h hr hk (by decide) dX6_isLine_15 (Nat.zero_le _) (Nat.zero_le _) ⟨rfl, rfl⟩
set_option maxRecDepth 100000 in
set_option maxHeartbeats 4000000 in
theorem c_X6_isLine_f (l : Launch) (E : gE) (x : St) (a : Int32) (ha : badL a) : Ct l yX6_isLine wsX6_isLine { frames := 0, cells := 0, slots := 0, locals := 0 } E [.int a] x (fun v y => v = some (.int (nI 0)) ∧ y = x) 0 0 := by
  refine Ct.of (cc := cX6_isLine) (nL := 1) (ret := (some .boolean)) (by decide) rfl (Nat.le_of_ble_eq_true rfl) ?_
  intro p e s m args below meth c h hr hk hname
  refine g_lvs (lv' := [(0, _)]) rfl ?_
  refine g_iload_n h 0 dX6_isLine_0 rfl rfl ?_
  refine g_if_lt h 14 dX6_isLine_1 (by decide) (fun c_1 => ?_) (fun c_1 => ?_)
  · skip
    refine g_iconst (v := nI 0) h dX6_isLine_14 (by decide) ?_
    exact g_zret h hr hk (by decide) dX6_isLine_15 (Nat.zero_le _) (Nat.zero_le _) ⟨rfl, rfl⟩
  · skip
    refine g_iload_n h 0 dX6_isLine_4 rfl rfl ?_
    refine g_bipush (v := nI 16) h dX6_isLine_5 (by decide) ?_
    refine g_icmp_ge h 14 dX6_isLine_7 (by decide) (fun c_7 => ?_) (fun c_7 => absurd c_7 (fun q => q (ha.resolve_left c_1)))
    refine g_iconst (v := nI 0) h dX6_isLine_14 (by decide) ?_
    exact g_zret h hr hk (by decide) dX6_isLine_15 (Nat.zero_le _) (Nat.zero_le _) ⟨rfl, rfl⟩
set_option maxRecDepth 100000 in
set_option maxHeartbeats 4000000 in
theorem c_X6_at (l : Launch) (E : gE) (x : St) (i : Nat) (j : Nat) (hi : i < 4) (hj : j < 16) : Ct l yX6_at wsX6_at { frames := 0, cells := 0, slots := 0, locals := 0 } E [.int (nI i), .int (nI j)] x (fun v y => v = some (.int (nI (16 * i + j))) ∧ y = x) 0 0 := by
  refine Ct.of (cc := cX6_at) (nL := 2) (ret := (some .int)) (by decide) rfl (Nat.le_of_ble_eq_true rfl) ?_
  intro p e s m args below meth c h hr hk hname
  refine g_lvs (lv' := [(0, _), (1, _)]) rfl ?_
  refine g_bipush (v := nI 16) h dX6_at_0 (by decide) ?_
  refine g_iload_n h 0 dX6_at_2 rfl rfl ?_
  refine g_imulN h dX6_at_3 ?_
  refine g_iload_n h 1 dX6_at_4 rfl rfl ?_
  refine g_iaddN h dX6_at_5 ?_
  exact g_iret h hr hk dX6_at_6 (Nat.zero_le _) (Nat.zero_le _) ⟨rfl, rfl⟩
theorem in_X6_linesIn_X6 : ∀ w ∈ wsX60, w ∈ wsX6_linesIn := by decide +kernel
theorem lk_X6_linesIn_16 : Cond.fieldLink RX6 16 "CacheDirectoryModel" "states" "[I" ∈ wsX6_linesIn := by decide +kernel
def lp_X6_linesIn_4 (x : St) (i : Nat) : Nat → Nat
  | 0 => 0
  | a4 + 1 =>
  if (x.AM 2 (16 * i + a4)) ≤ 0 then
    ((lp_X6_linesIn_4 x i a4)) + 0
  else
    ((lp_X6_linesIn_4 x i a4)) + 1
def r_X6_linesIn (x : St) (i : Nat) : Nat :=
  (lp_X6_linesIn_4 x i 16)
set_option maxRecDepth 100000 in
set_option maxHeartbeats 4000000 in
theorem c_X6_linesIn (l : Launch) (E : gE) (x : St) (i : Nat) (hi : i < 4) : Ct l yX6_linesIn wsX6_linesIn { frames := 1, cells := 0, slots := 0, locals := 21 } E [.ref (aM E), .int (nI i)] x (fun v y => v = some (.int (nI (r_X6_linesIn x i))) ∧ y = x) 0 0 := by
  refine Ct.of (cc := cX6_linesIn) (nL := 4) (ret := (some .int)) (by decide) rfl (Nat.le_of_ble_eq_true rfl) ?_
  intro p e s m args below meth c h hr hk hname
  refine g_lvs (lv' := [(0, _), (1, _)]) rfl ?_
  refine g_iconst (v := nI 0) h dX6_linesIn_0 (by decide) ?_
  refine g_istore_n (lv' := [(0, _), (1, _), (2, _)]) h [1, 2, 0] dX6_linesIn_1 rfl (by decide) rfl ?_
  refine g_iconst (v := nI 0) h dX6_linesIn_2 (by decide) ?_
  refine g_istore_n (lv' := [(0, _), (1, _), (2, _), (3, _)]) h [1, 2, 3, 0] dX6_linesIn_3 rfl (by decide) rfl ?_
  have loop4 : ∀ (k4 a4 : Nat), (16) - a4 < k4 → a4 ≤ 16 → gG p l e ({ frames := 1, cells := 0, slots := 0, locals := 21 } : Room) s m args below meth c (gQ below E x s (fun v y => v = some (.int (nI (r_X6_linesIn x i))) ∧ y = x) args 0 0) E x 4 0 0 x 4 [(0, .ref (aM E)), (1, .int (nI i)), (2, .int (nI ((lp_X6_linesIn_4 x i a4)))), (3, .int (nI a4))] [] := by
    intro k4
    induction k4 with
    | zero => intro a4 hk4; exact absurd hk4 (by omega)
    | succ k4 ih4 =>
      intro a4 hk4 ha4
      refine g_iload_n h 3 dX6_linesIn_4 rfl rfl ?_
      refine g_bipush (v := nI 16) h dX6_linesIn_5 (by decide) ?_
      refine g_icmp_geN h 37 dX6_linesIn_7 (by decide) (by omega) (by omega) (fun c_7 => ?_) (fun c_7 => ?_)
      · skip
        obtain rfl : a4 = 16 := by omega
        refine g_iload_n h 2 dX6_linesIn_37 rfl rfl ?_
        exact g_iret h hr hk dX6_linesIn_38 (Nat.zero_le _) (Nat.zero_le _) ⟨congrArg (fun z => some (Value.int (nI z))) (Eq.symm rfl), rfl⟩
      · skip
        have hlt_7 : a4 < 16 := by omega
        refine g_iload_n h 2 dX6_linesIn_10 rfl rfl ?_
        refine g_aload_n h 0 dX6_linesIn_11 rfl rfl ?_
        refine g_get (C := RX6) (T := TX6) (N := 29) h 3 (wat_M E _) rfl in_X6_linesIn_X6 (by decide) lk_X6_linesIn_16 rfl rfl dX6_linesIn_12 ?_
        refine g_iload_n h 1 dX6_linesIn_15 rfl rfl ?_
        refine g_iload_n h 3 dX6_linesIn_16 rfl rfl ?_
        refine g_callS (As := [.int (nI i), .int (nI a4)]) h 2 (c_X6_at l E _ i a4 (by omega) (by omega)) rfl gX6_linesIn_X6_at rfl rfl rfl rfl (by decide +kernel) ⟨Nat.le_of_ble_eq_true rfl, Nat.le_of_ble_eq_true rfl⟩ dX6_linesIn_17 ⟨Nat.le_refl _, Nat.le_refl _⟩ (Nat.le_of_ble_eq_true rfl) ?_
        rintro _ _ ⟨rfl, hy⟩
        obtain rfl := hy.symm
        dsimp only [Option.toList, List.cons_append, List.nil_append]
        refine g_iald (n := 64) h (wat_Y E _ (i := 2) (by decide)) (by omega) (by decide) dX6_linesIn_20 ?_
        refine g_if_le h 28 dX6_linesIn_21 (by decide) (fun c_21 => ?_) (fun c_21 => ?_)
        · skip
          refine g_iconst (v := nI 0) h dX6_linesIn_28 (by decide) ?_
          refine g_iaddN h dX6_linesIn_29 ?_
          refine g_istore_n (lv' := [(0, _), (1, _), (2, _), (3, _)]) h [1, 2, 0, 3] dX6_linesIn_30 rfl (by decide) rfl ?_
          refine g_iinc (lv' := [(0, _), (1, _), (2, _), (3, .int (nI (a4 + 1)))]) h 3 [1, 2, 3, 0] dX6_linesIn_31 rfl (nI_add _ 1) (by decide) rfl ?_
          refine g_goto h 4 dX6_linesIn_34 (by decide) ?_
          have hb4 : lp_X6_linesIn_4 x i (a4 + 1) = _ := (if_pos c_21)
          refine g_lvs (lv' := [(0, .ref (aM E)), (1, .int (nI i)), (2, .int (nI ((lp_X6_linesIn_4 x i (a4 + 1))))), (3, .int (nI (a4 + 1)))]) (by rw [hb4]) ?_
          exact ih4 (a4 + 1) (by omega) (by omega)
        · skip
          refine g_iconst (v := nI 1) h dX6_linesIn_24 (by decide) ?_
          refine g_goto h 29 dX6_linesIn_25 (by decide) ?_
          refine g_iaddN h dX6_linesIn_29 ?_
          refine g_istore_n (lv' := [(0, _), (1, _), (2, _), (3, _)]) h [1, 2, 0, 3] dX6_linesIn_30 rfl (by decide) rfl ?_
          refine g_iinc (lv' := [(0, _), (1, _), (2, _), (3, .int (nI (a4 + 1)))]) h 3 [1, 2, 3, 0] dX6_linesIn_31 rfl (nI_add _ 1) (by decide) rfl ?_
          refine g_goto h 4 dX6_linesIn_34 (by decide) ?_
          have hb4 : lp_X6_linesIn_4 x i (a4 + 1) = _ := (if_neg c_21)
          refine g_lvs (lv' := [(0, .ref (aM E)), (1, .int (nI i)), (2, .int (nI ((lp_X6_linesIn_4 x i (a4 + 1))))), (3, .int (nI (a4 + 1)))]) (by rw [hb4]) ?_
          exact ih4 (a4 + 1) (by omega) (by omega)
  exact loop4 (16 + 1) 0 (by omega) (by omega)
theorem in_X6_victimsIn_X6 : ∀ w ∈ wsX60, w ∈ wsX6_victimsIn := by decide +kernel
theorem lk_X6_victimsIn_25 : Cond.fieldLink RX6 25 "CacheDirectoryModel" "victims" "[I" ∈ wsX6_victimsIn := by decide +kernel
def lp_X6_victimsIn_4 (x : St) (i : Nat) : Nat → Nat
  | 0 => 0
  | a4 + 1 =>
  if (x.AM 5 (16 * i + a4)) < 0 then
    ((lp_X6_victimsIn_4 x i a4)) + 0
  else
    ((lp_X6_victimsIn_4 x i a4)) + 1
def r_X6_victimsIn (x : St) (i : Nat) : Nat :=
  (lp_X6_victimsIn_4 x i 16)
set_option maxRecDepth 100000 in
set_option maxHeartbeats 4000000 in
theorem c_X6_victimsIn (l : Launch) (E : gE) (x : St) (i : Nat) (hi : i < 4) : Ct l yX6_victimsIn wsX6_victimsIn { frames := 1, cells := 0, slots := 0, locals := 21 } E [.ref (aM E), .int (nI i)] x (fun v y => v = some (.int (nI (r_X6_victimsIn x i))) ∧ y = x) 0 0 := by
  refine Ct.of (cc := cX6_victimsIn) (nL := 4) (ret := (some .int)) (by decide) rfl (Nat.le_of_ble_eq_true rfl) ?_
  intro p e s m args below meth c h hr hk hname
  refine g_lvs (lv' := [(0, _), (1, _)]) rfl ?_
  refine g_iconst (v := nI 0) h dX6_victimsIn_0 (by decide) ?_
  refine g_istore_n (lv' := [(0, _), (1, _), (2, _)]) h [1, 2, 0] dX6_victimsIn_1 rfl (by decide) rfl ?_
  refine g_iconst (v := nI 0) h dX6_victimsIn_2 (by decide) ?_
  refine g_istore_n (lv' := [(0, _), (1, _), (2, _), (3, _)]) h [1, 2, 3, 0] dX6_victimsIn_3 rfl (by decide) rfl ?_
  have loop4 : ∀ (k4 a4 : Nat), (16) - a4 < k4 → a4 ≤ 16 → gG p l e ({ frames := 1, cells := 0, slots := 0, locals := 21 } : Room) s m args below meth c (gQ below E x s (fun v y => v = some (.int (nI (r_X6_victimsIn x i))) ∧ y = x) args 0 0) E x 4 0 0 x 4 [(0, .ref (aM E)), (1, .int (nI i)), (2, .int (nI ((lp_X6_victimsIn_4 x i a4)))), (3, .int (nI a4))] [] := by
    intro k4
    induction k4 with
    | zero => intro a4 hk4; exact absurd hk4 (by omega)
    | succ k4 ih4 =>
      intro a4 hk4 ha4
      refine g_iload_n h 3 dX6_victimsIn_4 rfl rfl ?_
      refine g_bipush (v := nI 16) h dX6_victimsIn_5 (by decide) ?_
      refine g_icmp_geN h 37 dX6_victimsIn_7 (by decide) (by omega) (by omega) (fun c_7 => ?_) (fun c_7 => ?_)
      · skip
        obtain rfl : a4 = 16 := by omega
        refine g_iload_n h 2 dX6_victimsIn_37 rfl rfl ?_
        exact g_iret h hr hk dX6_victimsIn_38 (Nat.zero_le _) (Nat.zero_le _) ⟨congrArg (fun z => some (Value.int (nI z))) (Eq.symm rfl), rfl⟩
      · skip
        have hlt_7 : a4 < 16 := by omega
        refine g_iload_n h 2 dX6_victimsIn_10 rfl rfl ?_
        refine g_aload_n h 0 dX6_victimsIn_11 rfl rfl ?_
        refine g_get (C := RX6) (T := TX6) (N := 29) h 6 (wat_M E _) rfl in_X6_victimsIn_X6 (by decide) lk_X6_victimsIn_25 rfl rfl dX6_victimsIn_12 ?_
        refine g_iload_n h 1 dX6_victimsIn_15 rfl rfl ?_
        refine g_iload_n h 3 dX6_victimsIn_16 rfl rfl ?_
        refine g_callS (As := [.int (nI i), .int (nI a4)]) h 2 (c_X6_at l E _ i a4 (by omega) (by omega)) rfl gX6_victimsIn_X6_at rfl rfl rfl rfl (by decide +kernel) ⟨Nat.le_of_ble_eq_true rfl, Nat.le_of_ble_eq_true rfl⟩ dX6_victimsIn_17 ⟨Nat.le_refl _, Nat.le_refl _⟩ (Nat.le_of_ble_eq_true rfl) ?_
        rintro _ _ ⟨rfl, hy⟩
        obtain rfl := hy.symm
        dsimp only [Option.toList, List.cons_append, List.nil_append]
        refine g_iald (n := 64) h (wat_Y E _ (i := 5) (by decide)) (by omega) (by decide) dX6_victimsIn_20 ?_
        refine g_if_lt h 28 dX6_victimsIn_21 (by decide) (fun c_21 => ?_) (fun c_21 => ?_)
        · skip
          refine g_iconst (v := nI 0) h dX6_victimsIn_28 (by decide) ?_
          refine g_iaddN h dX6_victimsIn_29 ?_
          refine g_istore_n (lv' := [(0, _), (1, _), (2, _), (3, _)]) h [1, 2, 0, 3] dX6_victimsIn_30 rfl (by decide) rfl ?_
          refine g_iinc (lv' := [(0, _), (1, _), (2, _), (3, .int (nI (a4 + 1)))]) h 3 [1, 2, 3, 0] dX6_victimsIn_31 rfl (nI_add _ 1) (by decide) rfl ?_
          refine g_goto h 4 dX6_victimsIn_34 (by decide) ?_
          have hb4 : lp_X6_victimsIn_4 x i (a4 + 1) = _ := (if_pos c_21)
          refine g_lvs (lv' := [(0, .ref (aM E)), (1, .int (nI i)), (2, .int (nI ((lp_X6_victimsIn_4 x i (a4 + 1))))), (3, .int (nI (a4 + 1)))]) (by rw [hb4]) ?_
          exact ih4 (a4 + 1) (by omega) (by omega)
        · skip
          refine g_iconst (v := nI 1) h dX6_victimsIn_24 (by decide) ?_
          refine g_goto h 29 dX6_victimsIn_25 (by decide) ?_
          refine g_iaddN h dX6_victimsIn_29 ?_
          refine g_istore_n (lv' := [(0, _), (1, _), (2, _), (3, _)]) h [1, 2, 0, 3] dX6_victimsIn_30 rfl (by decide) rfl ?_
          refine g_iinc (lv' := [(0, _), (1, _), (2, _), (3, .int (nI (a4 + 1)))]) h 3 [1, 2, 3, 0] dX6_victimsIn_31 rfl (nI_add _ 1) (by decide) rfl ?_
          refine g_goto h 4 dX6_victimsIn_34 (by decide) ?_
          have hb4 : lp_X6_victimsIn_4 x i (a4 + 1) = _ := (if_neg c_21)
          refine g_lvs (lv' := [(0, .ref (aM E)), (1, .int (nI i)), (2, .int (nI ((lp_X6_victimsIn_4 x i (a4 + 1))))), (3, .int (nI (a4 + 1)))]) (by rw [hb4]) ?_
          exact ih4 (a4 + 1) (by omega) (by omega)
  exact loop4 (16 + 1) 0 (by omega) (by omega)
theorem in_X6_use_X6 : ∀ w ∈ wsX60, w ∈ wsX6_use := by decide +kernel
theorem lk_X6_use_91 : Cond.fieldLink RX6 91 "CacheDirectoryModel" "time" "I" ∈ wsX6_use := by decide +kernel
theorem lk_X6_use_22 : Cond.fieldLink RX6 22 "CacheDirectoryModel" "uses" "[I" ∈ wsX6_use := by decide +kernel
def s_X6_use (x : St) (i : Nat) (j : Nat) : St :=
  let x1 := x.setFM 1 ((x.FM 1) + (nI 1))
  let x2 := x1.setAM 4 (upd (x1.AM 4) (16 * i + j) (x1.FM 1))
  x2
set_option maxRecDepth 100000 in
set_option maxHeartbeats 4000000 in
theorem c_X6_use (l : Launch) (E : gE) (x : St) (i : Nat) (j : Nat) (hi : i < 4) (hj : j < 16) : Ct l yX6_use wsX6_use { frames := 1, cells := 0, slots := 0, locals := 21 } E [.ref (aM E), .int (nI i), .int (nI j)] x (fun v y => v = none ∧ y = s_X6_use x i j) 0 0 := by
  refine Ct.of (cc := cX6_use) (nL := 3) (ret := none) (by decide) rfl (Nat.le_of_ble_eq_true rfl) ?_
  intro p e s m args below meth c h hr hk hname
  refine g_lvs (lv' := [(0, _), (1, _), (2, _)]) rfl ?_
  refine g_aload_n h 0 dX6_use_0 rfl rfl ?_
  refine g_dup h dX6_use_1 rfl ?_
  refine g_get (C := RX6) (T := TX6) (N := 29) h 7 (wat_M E _) rfl in_X6_use_X6 (by decide) lk_X6_use_91 rfl rfl dX6_use_2 ?_
  refine g_iconst (v := nI 1) h dX6_use_5 (by decide) ?_
  refine g_iadd h dX6_use_6 ?_
  refine g_put (C := RX6) (T := TX6) (N := 29) h 7 tyX6 (ws_M1 E _ _) rfl in_X6_use_X6 tyX6_ok nmX6 (by decide) lk_X6_use_91 rfl rfl rfl rfl rfl (Nat.le_of_ble_eq_true rfl) dX6_use_7 ?_
  refine g_aload_n h 0 dX6_use_10 rfl rfl ?_
  refine g_get (C := RX6) (T := TX6) (N := 29) h 5 (wat_M E _) rfl in_X6_use_X6 (by decide) lk_X6_use_22 rfl rfl dX6_use_11 ?_
  refine g_iload_n h 1 dX6_use_14 rfl rfl ?_
  refine g_iload_n h 2 dX6_use_15 rfl rfl ?_
  refine g_callS (As := [.int (nI i), .int (nI j)]) h 2 (c_X6_at l E _ i j (by omega) (by omega)) rfl gX6_use_X6_at rfl rfl rfl rfl (by decide +kernel) ⟨Nat.le_of_ble_eq_true rfl, Nat.le_of_ble_eq_true rfl⟩ dX6_use_16 ⟨Nat.le_refl _, Nat.le_refl _⟩ (Nat.le_of_ble_eq_true rfl) ?_
  rintro _ _ ⟨rfl, hy⟩
  obtain rfl := hy.symm
  dsimp only [Option.toList, List.cons_append, List.nil_append]
  refine g_aload_n h 0 dX6_use_19 rfl rfl ?_
  refine g_get (C := RX6) (T := TX6) (N := 29) h 7 (wat_M E _) rfl in_X6_use_X6 (by decide) lk_X6_use_91 rfl rfl dX6_use_20 ?_
  refine g_iast (n := 64) h (ws_Y E _ (i := 4) (by decide) _) (by omega) (by decide) dX6_use_23 ?_
  exact g_vret h hr hk dX6_use_24 (Nat.zero_le _) (Nat.zero_le _) ⟨rfl, Eq.symm rfl⟩
