/-- the number that an int stands for -/
abbrev nat (a : Int32) : Nat := a.toNatClampNeg
/-- not a cache's number, not a line's -/
abbrev badC (a : Int32) : Prop := a < 0 ∨ nI 4 ≤ a
abbrev badL (a : Int32) : Prop := a < 0 ∨ nI 16 ≤ a
theorem in_X6_thrown_X6 : ∀ w ∈ wsX60, w ∈ wsX6_thrown := by decide +kernel
theorem lk_X6_thrown_83 : Cond.fieldLink RX6 83 "CacheDirectoryModel" "thrown" "I" ∈ wsX6_thrown := by decide +kernel
def r_X6_thrown (x : St)  : Int32 :=
  x.FM 0
set_option maxRecDepth 100000 in
set_option maxHeartbeats 400000 in
theorem c_X6_thrown (l : Launch) (E : gE) (x : St)   : Ct l yX6_thrown wsX6_thrown { frames := 0, cells := 0, slots := 0, locals := 0 } E [.ref (aM E)] x (fun v y => v = some (.int (r_X6_thrown x )) ∧ y = x) 0 0 := by
  refine Ct.of (cc := cX6_thrown) (nL := 1) (ret := (some .int)) (by decide) rfl (Nat.le_of_ble_eq_true rfl) ?_
  intro p e s m args below meth c h hr hk hname
  refine g_lvs (lv' := [(0, _)]) rfl ?_
  refine g_aload_n h 0 dX6_thrown_0 rfl rfl ?_
  refine g_get (C := RX6) (T := TX6) (N := 29) h 0 (wat_M E _) rfl in_X6_thrown_X6 (by decide) lk_X6_thrown_83 rfl rfl dX6_thrown_1 ?_
  exact g_iret h hr hk dX6_thrown_4 (Nat.zero_le _) (Nat.zero_le _) ⟨congrArg (fun z => some (Value.int z)) (Eq.symm rfl), rfl⟩
theorem in_X6_fail_X6 : ∀ w ∈ wsX60, w ∈ wsX6_fail := by decide +kernel
theorem lk_X6_fail_83 : Cond.fieldLink RX6 83 "CacheDirectoryModel" "thrown" "I" ∈ wsX6_fail := by decide +kernel
def s_X6_fail (x : St) (a : Int32) : St :=
  let x1 := x.setFM 0 a
  x1
set_option maxRecDepth 100000 in
set_option maxHeartbeats 400000 in
theorem c_X6_fail (l : Launch) (E : gE) (x : St) (a : Int32)  : Ct l yX6_fail wsX6_fail { frames := 0, cells := 0, slots := 0, locals := 0 } E [.ref (aM E), .int a] x (fun v y => v = some (.int (nI 0)) ∧ y = s_X6_fail x a) 0 0 := by
  refine Ct.of (cc := cX6_fail) (nL := 2) (ret := (some .int)) (by decide) rfl (Nat.le_of_ble_eq_true rfl) ?_
  intro p e s m args below meth c h hr hk hname
  refine g_lvs (lv' := [(0, _), (1, _)]) rfl ?_
  refine g_aload_n h 0 dX6_fail_0 rfl rfl ?_
  refine g_iload_n h 1 dX6_fail_1 rfl rfl ?_
  refine g_put (C := RX6) (T := TX6) (N := 29) h 0 tyX6 (ws_M0 E _ _) rfl in_X6_fail_X6 tyX6_ok nmX6 (by decide) lk_X6_fail_83 rfl rfl rfl rfl rfl (Nat.le_of_ble_eq_true rfl) dX6_fail_2 ?_
  refine g_iconst (v := nI 0) h dX6_fail_5 (by decide) ?_
  exact g_iret h hr hk dX6_fail_6 (Nat.zero_le _) (Nat.zero_le _) ⟨rfl, Eq.symm rfl⟩
theorem in_X6_failed_X6 : ∀ w ∈ wsX60, w ∈ wsX6_failed := by decide +kernel
theorem lk_X6_failed_83 : Cond.fieldLink RX6 83 "CacheDirectoryModel" "thrown" "I" ∈ wsX6_failed := by decide +kernel
def s_X6_failed (x : St) (a : Int32) : St :=
  let x1 := x.setFM 0 a
  x1
set_option maxRecDepth 100000 in
set_option maxHeartbeats 400000 in
theorem c_X6_failed (l : Launch) (E : gE) (x : St) (a : Int32)  : Ct l yX6_failed wsX6_failed { frames := 0, cells := 0, slots := 0, locals := 0 } E [.ref (aM E), .int a] x (fun v y => v = some (.int (nI 0)) ∧ y = s_X6_failed x a) 0 0 := by
  refine Ct.of (cc := cX6_failed) (nL := 2) (ret := (some .boolean)) (by decide) rfl (Nat.le_of_ble_eq_true rfl) ?_
  intro p e s m args below meth c h hr hk hname
  refine g_lvs (lv' := [(0, _), (1, _)]) rfl ?_
  refine g_aload_n h 0 dX6_failed_0 rfl rfl ?_
  refine g_iload_n h 1 dX6_failed_1 rfl rfl ?_
  refine g_put (C := RX6) (T := TX6) (N := 29) h 0 tyX6 (ws_M0 E _ _) rfl in_X6_failed_X6 tyX6_ok nmX6 (by decide) lk_X6_failed_83 rfl rfl rfl rfl rfl (Nat.le_of_ble_eq_true rfl) dX6_failed_2 ?_
  refine g_iconst (v := nI 0) h dX6_failed_5 (by decide) ?_
  exact g_zret h hr hk (by decide) dX6_failed_6 (Nat.zero_le _) (Nat.zero_le _) ⟨rfl, Eq.symm rfl⟩
set_option maxRecDepth 100000 in
set_option maxHeartbeats 400000 in
theorem c_X6_isCache_t (l : Launch) (E : gE) (x : St) (i : Nat) (hi : i < 4) : Ct l yX6_isCache wsX6_isCache { frames := 0, cells := 0, slots := 0, locals := 0 } E [.int (nI i)] x (fun v y => v = some (.int (nI 1)) ∧ y = x) 0 0 := by
  refine Ct.of (cc := cX6_isCache) (nL := 1) (ret := (some .boolean)) (by decide) rfl (Nat.le_of_ble_eq_true rfl) ?_
  intro p e s m args below meth c h hr hk hname
  refine g_lvs (lv' := [(0, _)]) rfl ?_
  refine g_iload_n h 0 dX6_isCache_0 rfl rfl ?_
  refine g_if_lt h 13 dX6_isCache_1 (by decide) (fun c_1 => absurd c_1 (nI_pos (by omega))) (fun c_1 => ?_)
  refine g_iload_n h 0 dX6_isCache_4 rfl rfl ?_
  refine g_iconst (v := nI 4) h dX6_isCache_5 (by decide) ?_
  refine g_icmp_geN h 13 dX6_isCache_6 (by decide) (by omega) (by omega) (fun c_6 => absurd c_6 (by omega)) (fun c_6 => ?_)
  refine g_iconst (v := nI 1) h dX6_isCache_9 (by decide) ?_
  refine g_goto h 14 dX6_isCache_10 (by decide) ?_
  exact g_zret h hr hk (by decide) dX6_isCache_14 (Nat.zero_le _) (Nat.zero_le _) ⟨rfl, rfl⟩
set_option maxRecDepth 100000 in
set_option maxHeartbeats 400000 in
theorem c_X6_isCache_f (l : Launch) (E : gE) (x : St) (a : Int32) (ha : badC a) : Ct l yX6_isCache wsX6_isCache { frames := 0, cells := 0, slots := 0, locals := 0 } E [.int a] x (fun v y => v = some (.int (nI 0)) ∧ y = x) 0 0 := by
  refine Ct.of (cc := cX6_isCache) (nL := 1) (ret := (some .boolean)) (by decide) rfl (Nat.le_of_ble_eq_true rfl) ?_
  intro p e s m args below meth c h hr hk hname
  refine g_lvs (lv' := [(0, _)]) rfl ?_
  refine g_iload_n h 0 dX6_isCache_0 rfl rfl ?_
  refine g_if_lt h 13 dX6_isCache_1 (by decide) (fun c_1 => ?_) (fun c_1 => ?_)
  · skip
    refine g_iconst (v := nI 0) h dX6_isCache_13 (by decide) ?_
    exact g_zret h hr hk (by decide) dX6_isCache_14 (Nat.zero_le _) (Nat.zero_le _) ⟨rfl, rfl⟩
  · skip
    refine g_iload_n h 0 dX6_isCache_4 rfl rfl ?_
    refine g_iconst (v := nI 4) h dX6_isCache_5 (by decide) ?_
    refine g_icmp_ge h 13 dX6_isCache_6 (by decide) (fun c_6 => ?_) (fun c_6 => absurd c_6 (fun q => q (ha.resolve_left c_1)))
    refine g_iconst (v := nI 0) h dX6_isCache_13 (by decide) ?_
    exact g_zret h hr hk (by decide) dX6_isCache_14 (Nat.zero_le _) (Nat.zero_le _) ⟨rfl, rfl⟩
set_option maxRecDepth 100000 in
set_option maxHeartbeats 400000 in
theorem c_X6_isLine_t (l : Launch) (E : gE) (x : St) (i : Nat) (hi : i < 16) : Ct l yX6_isLine wsX6_isLine { frames := 0, cells := 0, slots := 0, locals := 0 } E [.int (nI i)] x (fun v y => v = some (.int (nI 1)) ∧ y = x) 0 0 := by
  refine Ct.of (cc := cX6_isLine) (nL := 1) (ret := (some .boolean)) (by decide) rfl (Nat.le_of_ble_eq_true rfl) ?_
  intro p e s m args below meth c h hr hk hname
  refine g_lvs (lv' := [(0, _)]) rfl ?_
  refine g_iload_n h 0 dX6_isLine_0 rfl rfl ?_
  refine g_if_lt h 14 dX6_isLine_1 (by decide) (fun c_1 => absurd c_1 (nI_pos (by omega))) (fun c_1 => ?_)
  refine g_iload_n h 0 dX6_isLine_4 rfl rfl ?_
  refine g_bipush (v := nI 16) h dX6_isLine_5 (by decide) ?_
  refine g_icmp_geN h 14 dX6_isLine_7 (by decide) (by omega) (by omega) (fun c_7 => absurd c_7 (by omega)) (fun c_7 => ?_)
  refine g_iconst (v := nI 1) h dX6_isLine_10 (by decide) ?_
  refine g_goto h 15 dX6_isLine_11 (by decide) ?_
  exact g_zret h hr hk (by decide) dX6_isLine_15 (Nat.zero_le _) (Nat.zero_le _) ⟨rfl, rfl⟩
set_option maxRecDepth 100000 in
set_option maxHeartbeats 400000 in
theorem c_X6_isLine_f (l : Launch) (E : gE) (x : St) (a : Int32) (ha : badL a) : Ct l yX6_isLine wsX6_isLine { frames := 0, cells := 0, slots := 0, locals := 0 } E [.int a] x (fun v y => v = some (.int (nI 0)) ∧ y = x) 0 0 := by
  refine Ct.of (cc := cX6_isLine) (nL := 1) (ret := (some .boolean)) (by decide) rfl (Nat.le_of_ble_eq_true rfl) ?_
  intro p e s m args below meth c h hr hk hname
  refine g_lvs (lv' := [(0, _)]) rfl ?_
  refine g_iload_n h 0 dX6_isLine_0 rfl rfl ?_
  refine g_if_lt h 14 dX6_isLine_1 (by decide) (fun c_1 => ?_) (fun c_1 => ?_)
  · skip
    refine g_iconst (v := nI 0) h dX6_isLine_14 (by decide) ?_
    exact g_zret h hr hk (by decide) dX6_isLine_15 (Nat.zero_le _) (Nat.zero_le _) ⟨rfl, rfl⟩
  · skip
    refine g_iload_n h 0 dX6_isLine_4 rfl rfl ?_
    refine g_bipush (v := nI 16) h dX6_isLine_5 (by decide) ?_
    refine g_icmp_ge h 14 dX6_isLine_7 (by decide) (fun c_7 => ?_) (fun c_7 => absurd c_7 (fun q => q (ha.resolve_left c_1)))
    refine g_iconst (v := nI 0) h dX6_isLine_14 (by decide) ?_
    exact g_zret h hr hk (by decide) dX6_isLine_15 (Nat.zero_le _) (Nat.zero_le _) ⟨rfl, rfl⟩
set_option maxRecDepth 100000 in
set_option maxHeartbeats 400000 in
theorem c_X6_at (l : Launch) (E : gE) (x : St) (i : Nat) (j : Nat) (hi : i < 4) (hj : j < 16) : Ct l yX6_at wsX6_at { frames := 0, cells := 0, slots := 0, locals := 0 } E [.int (nI i), .int (nI j)] x (fun v y => v = some (.int (nI (16 * i + j))) ∧ y = x) 0 0 := by
  refine Ct.of (cc := cX6_at) (nL := 2) (ret := (some .int)) (by decide) rfl (Nat.le_of_ble_eq_true rfl) ?_
  intro p e s m args below meth c h hr hk hname
  refine g_lvs (lv' := [(0, _), (1, _)]) rfl ?_
  refine g_bipush (v := nI 16) h dX6_at_0 (by decide) ?_
  refine g_iload_n h 0 dX6_at_2 rfl rfl ?_
  refine g_imulN h dX6_at_3 ?_
  refine g_iload_n h 1 dX6_at_4 rfl rfl ?_
  refine g_iaddN h dX6_at_5 ?_
  exact g_iret h hr hk dX6_at_6 (Nat.zero_le _) (Nat.zero_le _) ⟨rfl, rfl⟩
theorem in_X6_linesIn_X6 : ∀ w ∈ wsX60, w ∈ wsX6_linesIn := by decide +kernel
theorem lk_X6_linesIn_16 : Cond.fieldLink RX6 16 "CacheDirectoryModel" "states" "[I" ∈ wsX6_linesIn := by decide +kernel
def lp_X6_linesIn_4 (x : St) (i : Nat) (b4_0 : Nat) : Nat → Nat
  | 0 => b4_0
  | a4 + 1 =>
  if (x.AM 2 (16 * i + a4)) ≤ 0 then
    ((lp_X6_linesIn_4 x i b4_0 a4)) + 0
  else
    ((lp_X6_linesIn_4 x i b4_0 a4)) + 1
def r_X6_linesIn (x : St) (i : Nat) : Nat :=
  (lp_X6_linesIn_4 x i 0 16)
set_option maxRecDepth 100000 in
set_option maxHeartbeats 400000 in
theorem c_X6_linesIn (l : Launch) (E : gE) (x : St) (i : Nat) (hi : i < 4) : Ct l yX6_linesIn wsX6_linesIn { frames := 1, cells := 0, slots := 0, locals := 21 } E [.ref (aM E), .int (nI i)] x (fun v y => v = some (.int (nI (r_X6_linesIn x i))) ∧ y = x) 0 0 := by
  refine Ct.of (cc := cX6_linesIn) (nL := 4) (ret := (some .int)) (by decide) rfl (Nat.le_of_ble_eq_true rfl) ?_
  intro p e s m args below meth c h hr hk hname
  refine g_lvs (lv' := [(0, _), (1, _)]) rfl ?_
  refine g_iconst (v := nI 0) h dX6_linesIn_0 (by decide) ?_
  refine g_istore_n (lv' := [(0, _), (1, _), (2, _)]) h [1, 2, 0] dX6_linesIn_1 rfl (by decide) rfl ?_
  refine g_iconst (v := nI 0) h dX6_linesIn_2 (by decide) ?_
  refine g_istore_n (lv' := [(0, _), (1, _), (2, _), (3, _)]) h [1, 2, 3, 0] dX6_linesIn_3 rfl (by decide) rfl ?_
  have loop4 : ∀ (k4 a4 : Nat), (16) - a4 < k4 → a4 ≤ 16 → gG p l e ({ frames := 1, cells := 0, slots := 0, locals := 21 } : Room) s m args below meth c (gQ below E x s (fun v y => v = some (.int (nI (r_X6_linesIn x i))) ∧ y = x) args 0 0) E x 4 0 0 x 4 [(0, .ref (aM E)), (1, .int (nI i)), (2, .int (nI ((lp_X6_linesIn_4 x i 0 a4)))), (3, .int (nI a4))] [] := by
    intro k4
    induction k4 with
    | zero => intro a4 hk4; exact absurd hk4 (by omega)
    | succ k4 ih4 =>
      intro a4 hk4 ha4
      refine g_iload_n h 3 dX6_linesIn_4 rfl rfl ?_
      refine g_bipush (v := nI 16) h dX6_linesIn_5 (by decide) ?_
      refine g_icmp_geN h 37 dX6_linesIn_7 (by decide) (by omega) (by omega) (fun c_7 => ?_) (fun c_7 => ?_)
      · skip
        obtain rfl : a4 = 16 := by omega
        refine g_iload_n h 2 dX6_linesIn_37 rfl rfl ?_
        exact g_iret h hr hk dX6_linesIn_38 (Nat.zero_le _) (Nat.zero_le _) ⟨congrArg (fun z => some (Value.int (nI z))) (Eq.symm rfl), rfl⟩
      · skip
        have hlt_7 : a4 < 16 := by omega
        refine g_iload_n h 2 dX6_linesIn_10 rfl rfl ?_
        refine g_aload_n h 0 dX6_linesIn_11 rfl rfl ?_
        refine g_get (C := RX6) (T := TX6) (N := 29) h 3 (wat_M E _) rfl in_X6_linesIn_X6 (by decide) lk_X6_linesIn_16 rfl rfl dX6_linesIn_12 ?_
        refine g_iload_n h 1 dX6_linesIn_15 rfl rfl ?_
        refine g_iload_n h 3 dX6_linesIn_16 rfl rfl ?_
        refine g_callS (As := [.int (nI i), .int (nI a4)]) h 2 (c_X6_at l E _ i a4 (by omega) (by omega)) rfl gX6_linesIn_X6_at rfl rfl rfl rfl (by decide +kernel) ⟨Nat.le_of_ble_eq_true rfl, Nat.le_of_ble_eq_true rfl⟩ dX6_linesIn_17 ⟨Nat.le_refl _, Nat.le_refl _⟩ (Nat.le_of_ble_eq_true rfl) ?_
        rintro _ _ ⟨rfl, hy⟩
        obtain rfl := hy.symm
        dsimp only [Option.toList, List.cons_append, List.nil_append]
        refine g_iald (n := 64) h (wat_Y E _ (i := 2) (by decide)) (by omega) (by decide) dX6_linesIn_20 ?_
        refine g_if_le h 28 dX6_linesIn_21 (by decide) (fun c_21 => ?_) (fun c_21 => ?_)
        · skip
          refine g_iconst (v := nI 0) h dX6_linesIn_28 (by decide) ?_
          refine g_iaddN h dX6_linesIn_29 ?_
          refine g_istore_n (lv' := [(0, _), (1, _), (2, _), (3, _)]) h [1, 2, 0, 3] dX6_linesIn_30 rfl (by decide) rfl ?_
          refine g_iinc (lv' := [(0, _), (1, _), (2, _), (3, .int (nI (a4 + 1)))]) h 3 [1, 2, 3, 0] dX6_linesIn_31 rfl (nI_add _ 1) (by decide) rfl ?_
          refine g_goto h 4 dX6_linesIn_34 (by decide) ?_
          have hb4 : lp_X6_linesIn_4 x i 0 (a4 + 1) = _ := (if_pos c_21)
          refine g_lvs (lv' := [(0, .ref (aM E)), (1, .int (nI i)), (2, .int (nI ((lp_X6_linesIn_4 x i 0 (a4 + 1))))), (3, .int (nI (a4 + 1)))]) (by rw [hb4]) ?_
          exact ih4 (a4 + 1) (by omega) (by omega)
        · skip
          refine g_iconst (v := nI 1) h dX6_linesIn_24 (by decide) ?_
          refine g_goto h 29 dX6_linesIn_25 (by decide) ?_
          refine g_iaddN h dX6_linesIn_29 ?_
          refine g_istore_n (lv' := [(0, _), (1, _), (2, _), (3, _)]) h [1, 2, 0, 3] dX6_linesIn_30 rfl (by decide) rfl ?_
          refine g_iinc (lv' := [(0, _), (1, _), (2, _), (3, .int (nI (a4 + 1)))]) h 3 [1, 2, 3, 0] dX6_linesIn_31 rfl (nI_add _ 1) (by decide) rfl ?_
          refine g_goto h 4 dX6_linesIn_34 (by decide) ?_
          have hb4 : lp_X6_linesIn_4 x i 0 (a4 + 1) = _ := (if_neg c_21)
          refine g_lvs (lv' := [(0, .ref (aM E)), (1, .int (nI i)), (2, .int (nI ((lp_X6_linesIn_4 x i 0 (a4 + 1))))), (3, .int (nI (a4 + 1)))]) (by rw [hb4]) ?_
          exact ih4 (a4 + 1) (by omega) (by omega)
  exact loop4 (16 + 1) 0 (by omega) (by omega)
theorem in_X6_victimsIn_X6 : ∀ w ∈ wsX60, w ∈ wsX6_victimsIn := by decide +kernel
theorem lk_X6_victimsIn_25 : Cond.fieldLink RX6 25 "CacheDirectoryModel" "victims" "[I" ∈ wsX6_victimsIn := by decide +kernel
def lp_X6_victimsIn_4 (x : St) (i : Nat) (b4_0 : Nat) : Nat → Nat
  | 0 => b4_0
  | a4 + 1 =>
  if (x.AM 5 (16 * i + a4)) < 0 then
    ((lp_X6_victimsIn_4 x i b4_0 a4)) + 0
  else
    ((lp_X6_victimsIn_4 x i b4_0 a4)) + 1
def r_X6_victimsIn (x : St) (i : Nat) : Nat :=
  (lp_X6_victimsIn_4 x i 0 16)
set_option maxRecDepth 100000 in
set_option maxHeartbeats 400000 in
theorem c_X6_victimsIn (l : Launch) (E : gE) (x : St) (i : Nat) (hi : i < 4) : Ct l yX6_victimsIn wsX6_victimsIn { frames := 1, cells := 0, slots := 0, locals := 21 } E [.ref (aM E), .int (nI i)] x (fun v y => v = some (.int (nI (r_X6_victimsIn x i))) ∧ y = x) 0 0 := by
  refine Ct.of (cc := cX6_victimsIn) (nL := 4) (ret := (some .int)) (by decide) rfl (Nat.le_of_ble_eq_true rfl) ?_
  intro p e s m args below meth c h hr hk hname
  refine g_lvs (lv' := [(0, _), (1, _)]) rfl ?_
  refine g_iconst (v := nI 0) h dX6_victimsIn_0 (by decide) ?_
  refine g_istore_n (lv' := [(0, _), (1, _), (2, _)]) h [1, 2, 0] dX6_victimsIn_1 rfl (by decide) rfl ?_
  refine g_iconst (v := nI 0) h dX6_victimsIn_2 (by decide) ?_
  refine g_istore_n (lv' := [(0, _), (1, _), (2, _), (3, _)]) h [1, 2, 3, 0] dX6_victimsIn_3 rfl (by decide) rfl ?_
  have loop4 : ∀ (k4 a4 : Nat), (16) - a4 < k4 → a4 ≤ 16 → gG p l e ({ frames := 1, cells := 0, slots := 0, locals := 21 } : Room) s m args below meth c (gQ below E x s (fun v y => v = some (.int (nI (r_X6_victimsIn x i))) ∧ y = x) args 0 0) E x 4 0 0 x 4 [(0, .ref (aM E)), (1, .int (nI i)), (2, .int (nI ((lp_X6_victimsIn_4 x i 0 a4)))), (3, .int (nI a4))] [] := by
    intro k4
    induction k4 with
    | zero => intro a4 hk4; exact absurd hk4 (by omega)
    | succ k4 ih4 =>
      intro a4 hk4 ha4
      refine g_iload_n h 3 dX6_victimsIn_4 rfl rfl ?_
      refine g_bipush (v := nI 16) h dX6_victimsIn_5 (by decide) ?_
      refine g_icmp_geN h 37 dX6_victimsIn_7 (by decide) (by omega) (by omega) (fun c_7 => ?_) (fun c_7 => ?_)
      · skip
        obtain rfl : a4 = 16 := by omega
        refine g_iload_n h 2 dX6_victimsIn_37 rfl rfl ?_
        exact g_iret h hr hk dX6_victimsIn_38 (Nat.zero_le _) (Nat.zero_le _) ⟨congrArg (fun z => some (Value.int (nI z))) (Eq.symm rfl), rfl⟩
      · skip
        have hlt_7 : a4 < 16 := by omega
        refine g_iload_n h 2 dX6_victimsIn_10 rfl rfl ?_
        refine g_aload_n h 0 dX6_victimsIn_11 rfl rfl ?_
        refine g_get (C := RX6) (T := TX6) (N := 29) h 6 (wat_M E _) rfl in_X6_victimsIn_X6 (by decide) lk_X6_victimsIn_25 rfl rfl dX6_victimsIn_12 ?_
        refine g_iload_n h 1 dX6_victimsIn_15 rfl rfl ?_
        refine g_iload_n h 3 dX6_victimsIn_16 rfl rfl ?_
        refine g_callS (As := [.int (nI i), .int (nI a4)]) h 2 (c_X6_at l E _ i a4 (by omega) (by omega)) rfl gX6_victimsIn_X6_at rfl rfl rfl rfl (by decide +kernel) ⟨Nat.le_of_ble_eq_true rfl, Nat.le_of_ble_eq_true rfl⟩ dX6_victimsIn_17 ⟨Nat.le_refl _, Nat.le_refl _⟩ (Nat.le_of_ble_eq_true rfl) ?_
        rintro _ _ ⟨rfl, hy⟩
        obtain rfl := hy.symm
        dsimp only [Option.toList, List.cons_append, List.nil_append]
        refine g_iald (n := 64) h (wat_Y E _ (i := 5) (by decide)) (by omega) (by decide) dX6_victimsIn_20 ?_
        refine g_if_lt h 28 dX6_victimsIn_21 (by decide) (fun c_21 => ?_) (fun c_21 => ?_)
        · skip
          refine g_iconst (v := nI 0) h dX6_victimsIn_28 (by decide) ?_
          refine g_iaddN h dX6_victimsIn_29 ?_
          refine g_istore_n (lv' := [(0, _), (1, _), (2, _), (3, _)]) h [1, 2, 0, 3] dX6_victimsIn_30 rfl (by decide) rfl ?_
          refine g_iinc (lv' := [(0, _), (1, _), (2, _), (3, .int (nI (a4 + 1)))]) h 3 [1, 2, 3, 0] dX6_victimsIn_31 rfl (nI_add _ 1) (by decide) rfl ?_
          refine g_goto h 4 dX6_victimsIn_34 (by decide) ?_
          have hb4 : lp_X6_victimsIn_4 x i 0 (a4 + 1) = _ := (if_pos c_21)
          refine g_lvs (lv' := [(0, .ref (aM E)), (1, .int (nI i)), (2, .int (nI ((lp_X6_victimsIn_4 x i 0 (a4 + 1))))), (3, .int (nI (a4 + 1)))]) (by rw [hb4]) ?_
          exact ih4 (a4 + 1) (by omega) (by omega)
        · skip
          refine g_iconst (v := nI 1) h dX6_victimsIn_24 (by decide) ?_
          refine g_goto h 29 dX6_victimsIn_25 (by decide) ?_
          refine g_iaddN h dX6_victimsIn_29 ?_
          refine g_istore_n (lv' := [(0, _), (1, _), (2, _), (3, _)]) h [1, 2, 0, 3] dX6_victimsIn_30 rfl (by decide) rfl ?_
          refine g_iinc (lv' := [(0, _), (1, _), (2, _), (3, .int (nI (a4 + 1)))]) h 3 [1, 2, 3, 0] dX6_victimsIn_31 rfl (nI_add _ 1) (by decide) rfl ?_
          refine g_goto h 4 dX6_victimsIn_34 (by decide) ?_
          have hb4 : lp_X6_victimsIn_4 x i 0 (a4 + 1) = _ := (if_neg c_21)
          refine g_lvs (lv' := [(0, .ref (aM E)), (1, .int (nI i)), (2, .int (nI ((lp_X6_victimsIn_4 x i 0 (a4 + 1))))), (3, .int (nI (a4 + 1)))]) (by rw [hb4]) ?_
          exact ih4 (a4 + 1) (by omega) (by omega)
  exact loop4 (16 + 1) 0 (by omega) (by omega)
theorem in_X6_use_X6 : ∀ w ∈ wsX60, w ∈ wsX6_use := by decide +kernel
theorem lk_X6_use_91 : Cond.fieldLink RX6 91 "CacheDirectoryModel" "time" "I" ∈ wsX6_use := by decide +kernel
theorem lk_X6_use_22 : Cond.fieldLink RX6 22 "CacheDirectoryModel" "uses" "[I" ∈ wsX6_use := by decide +kernel
def s_X6_use (x : St) (i : Nat) (j : Nat) : St :=
  let x1 := x.setFM 1 ((x.FM 1) + (nI 1))
  let x2 := x1.setAM 4 (upd (x1.AM 4) (16 * i + j) (x1.FM 1))
  x2
set_option maxRecDepth 100000 in
set_option maxHeartbeats 400000 in
theorem c_X6_use (l : Launch) (E : gE) (x : St) (i : Nat) (j : Nat) (hi : i < 4) (hj : j < 16) : Ct l yX6_use wsX6_use { frames := 1, cells := 0, slots := 0, locals := 21 } E [.ref (aM E), .int (nI i), .int (nI j)] x (fun v y => v = none ∧ y = s_X6_use x i j) 0 0 := by
  refine Ct.of (cc := cX6_use) (nL := 3) (ret := none) (by decide) rfl (Nat.le_of_ble_eq_true rfl) ?_
  intro p e s m args below meth c h hr hk hname
  refine g_lvs (lv' := [(0, _), (1, _), (2, _)]) rfl ?_
  refine g_aload_n h 0 dX6_use_0 rfl rfl ?_
  refine g_dup h dX6_use_1 rfl ?_
  refine g_get (C := RX6) (T := TX6) (N := 29) h 7 (wat_M E _) rfl in_X6_use_X6 (by decide) lk_X6_use_91 rfl rfl dX6_use_2 ?_
  refine g_iconst (v := nI 1) h dX6_use_5 (by decide) ?_
  refine g_iadd h dX6_use_6 ?_
  refine g_put (C := RX6) (T := TX6) (N := 29) h 7 tyX6 (ws_M1 E _ _) rfl in_X6_use_X6 tyX6_ok nmX6 (by decide) lk_X6_use_91 rfl rfl rfl rfl rfl (Nat.le_of_ble_eq_true rfl) dX6_use_7 ?_
  refine g_aload_n h 0 dX6_use_10 rfl rfl ?_
  refine g_get (C := RX6) (T := TX6) (N := 29) h 5 (wat_M E _) rfl in_X6_use_X6 (by decide) lk_X6_use_22 rfl rfl dX6_use_11 ?_
  refine g_iload_n h 1 dX6_use_14 rfl rfl ?_
  refine g_iload_n h 2 dX6_use_15 rfl rfl ?_
  refine g_callS (As := [.int (nI i), .int (nI j)]) h 2 (c_X6_at l E _ i j (by omega) (by omega)) rfl gX6_use_X6_at rfl rfl rfl rfl (by decide +kernel) ⟨Nat.le_of_ble_eq_true rfl, Nat.le_of_ble_eq_true rfl⟩ dX6_use_16 ⟨Nat.le_refl _, Nat.le_refl _⟩ (Nat.le_of_ble_eq_true rfl) ?_
  rintro _ _ ⟨rfl, hy⟩
  obtain rfl := hy.symm
  dsimp only [Option.toList, List.cons_append, List.nil_append]
  refine g_aload_n h 0 dX6_use_19 rfl rfl ?_
  refine g_get (C := RX6) (T := TX6) (N := 29) h 7 (wat_M E _) rfl in_X6_use_X6 (by decide) lk_X6_use_91 rfl rfl dX6_use_20 ?_
  refine g_iast (n := 64) h (ws_Y E _ (i := 4) (by decide) _) (by omega) (by decide) dX6_use_23 ?_
  exact g_vret h hr hk dX6_use_24 (Nat.zero_le _) (Nat.zero_le _) ⟨rfl, Eq.symm rfl⟩
theorem in_X6_lineBy_X6 : ∀ w ∈ wsX60, w ∈ wsX6_lineBy := by decide +kernel
theorem lk_X6_lineBy_16 : Cond.fieldLink RX6 16 "CacheDirectoryModel" "states" "[I" ∈ wsX6_lineBy := by decide +kernel
theorem lk_X6_lineBy_22 : Cond.fieldLink RX6 22 "CacheDirectoryModel" "uses" "[I" ∈ wsX6_lineBy := by decide +kernel
def lp_X6_lineBy_30 (x : St) (i : Nat) (b : Int32) (a2 : Nat) (b30_0 : Nat) : Nat → Nat
  | 0 => b30_0
  | a30 + 1 =>
  if (x.AM 2 (16 * i + a30)) ≤ 0 then
    ((lp_X6_lineBy_30 x i b a2 b30_0 a30)) + 0
  else
    if (x.AM 4 (16 * i + a2)) ≤ (x.AM 4 (16 * i + a30)) then
      ((lp_X6_lineBy_30 x i b a2 b30_0 a30)) + 0
    else
      ((lp_X6_lineBy_30 x i b a2 b30_0 a30)) + 1
def lq_X6_lineBy_2 (x : St) (i : Nat) (b : Int32) : Nat → Nat → Int32
  | 0, a2 =>
    (-1 : Int32)

  | n2 + 1, a2 =>
    if (x.AM 2 (16 * i + a2)) = 0 then
      lq_X6_lineBy_2 x i b n2 (a2 + 1) 
    else
      if (nI ((lp_X6_lineBy_30 x i b a2 0 16))) = b then
        nI a2
      else
        lq_X6_lineBy_2 x i b n2 (a2 + 1)
def r_X6_lineBy (x : St) (i : Nat) (b : Int32) : Int32 :=
  lq_X6_lineBy_2 x i b 16 0
set_option maxRecDepth 100000 in
set_option maxHeartbeats 400000 in
theorem c_X6_lineBy (l : Launch) (E : gE) (x : St) (i : Nat) (b : Int32) (hi : i < 4) : Ct l yX6_lineBy wsX6_lineBy { frames := 1, cells := 0, slots := 0, locals := 21 } E [.ref (aM E), .int (nI i), .int b] x (fun v y => v = some (.int (r_X6_lineBy x i b)) ∧ y = x) 0 0 := by
  refine Ct.of (cc := cX6_lineBy) (nL := 6) (ret := (some .int)) (by decide) rfl (Nat.le_of_ble_eq_true rfl) ?_
  intro p e s m args below meth c h hr hk hname
  refine g_lvs (lv' := [(0, _), (1, _), (2, _)]) rfl ?_
  refine g_iconst (v := nI 0) h dX6_lineBy_0 (by decide) ?_
  refine g_istore_n (lv' := [(0, _), (1, _), (2, _), (3, _)]) h [1, 2, 3, 0] dX6_lineBy_1 rfl (by decide) rfl ?_
  have loop2 : ∀ (k2 a2 n2 : Nat), n2 < k2 → a2 + n2 = 16 → lq_X6_lineBy_2 x i b n2 a2 = lq_X6_lineBy_2 x i b 16 0  → gG p l e ({ frames := 1, cells := 0, slots := 0, locals := 21 } : Room) s m args below meth c (gQ below E x s (fun v y => v = some (.int (r_X6_lineBy x i b)) ∧ y = x) args 0 0) E x 6 0 0 x 2 [(0, .ref (aM E)), (1, .int (nI i)), (2, .int b), (3, .int (nI a2))] [] := by
    intro k2
    induction k2 with
    | zero => intro a2 n2  hk2; exact absurd hk2 (by omega)
    | succ k2 ih2 =>
      intro a2 n2  hk2 ha2 hq2
      refine g_iload_n h 3 dX6_lineBy_2 rfl rfl ?_
      refine g_bipush (v := nI 16) h dX6_lineBy_3 (by decide) ?_
      refine g_icmp_geN h 105 dX6_lineBy_5 (by decide) (by omega) (by omega) (fun c_5 => ?_) (fun c_5 => ?_)
      · skip
        obtain rfl : n2 = 0 := by omega
        refine g_iconst (v := -1) h dX6_lineBy_105 (by decide) ?_
        exact g_iret h hr hk dX6_lineBy_106 (Nat.zero_le _) (Nat.zero_le _) ⟨congrArg (fun z => some (Value.int z)) (Eq.trans (Eq.trans (Eq.symm rfl) hq2) (Eq.symm rfl)), rfl⟩
      · skip
        obtain ⟨n2, rfl⟩ : ∃ q, n2 = q + 1 := ⟨n2 - 1, by omega⟩
        refine g_aload_n h 0 dX6_lineBy_8 rfl rfl ?_
        refine g_get (C := RX6) (T := TX6) (N := 29) h 3 (wat_M E _) rfl in_X6_lineBy_X6 (by decide) lk_X6_lineBy_16 rfl rfl dX6_lineBy_9 ?_
        refine g_iload_n h 1 dX6_lineBy_12 rfl rfl ?_
        refine g_iload_n h 3 dX6_lineBy_13 rfl rfl ?_
        refine g_callS (As := [.int (nI i), .int (nI a2)]) h 2 (c_X6_at l E _ i a2 (by omega) (by omega)) rfl gX6_lineBy_X6_at rfl rfl rfl rfl (by decide +kernel) ⟨Nat.le_of_ble_eq_true rfl, Nat.le_of_ble_eq_true rfl⟩ dX6_lineBy_14 ⟨Nat.le_refl _, Nat.le_refl _⟩ (Nat.le_of_ble_eq_true rfl) ?_
        rintro _ _ ⟨rfl, hy⟩
        obtain rfl := hy.symm
        dsimp only [Option.toList, List.cons_append, List.nil_append]
        refine g_iald (n := 64) h (wat_Y E _ (i := 2) (by decide)) (by omega) (by decide) dX6_lineBy_17 ?_
        refine g_if_ne h 24 dX6_lineBy_18 (by decide) (fun c_18 => ?_) (fun c_18 => ?_)
        · skip
          refine g_iconst (v := nI 0) h dX6_lineBy_24 (by decide) ?_
          refine g_istore (lv' := [(0, _), (1, _), (2, _), (3, _), (4, _)]) h [1, 2, 3, 4, 0] dX6_lineBy_25 (by decide) rfl ?_
          refine g_iconst (v := nI 0) h dX6_lineBy_27 (by decide) ?_
          refine g_istore (lv' := [(0, _), (1, _), (2, _), (3, _), (4, _), (5, _)]) h [1, 2, 3, 4, 5, 0] dX6_lineBy_28 (by decide) rfl ?_
          have loop30 : ∀ (k30 a30 : Nat), (16) - a30 < k30 → a30 ≤ 16 → gG p l e ({ frames := 1, cells := 0, slots := 0, locals := 21 } : Room) s m args below meth c (gQ below E x s (fun v y => v = some (.int (r_X6_lineBy x i b)) ∧ y = x) args 0 0) E x 6 0 0 x 30 [(0, .ref (aM E)), (1, .int (nI i)), (2, .int b), (3, .int (nI a2)), (4, .int (nI ((lp_X6_lineBy_30 x i b a2 0 a30)))), (5, .int (nI a30))] [] := by
            intro k30
            induction k30 with
            | zero => intro a30 hk30; exact absurd hk30 (by omega)
            | succ k30 ih30 =>
              intro a30 hk30 ha30
              refine g_iload h 5 dX6_lineBy_30 rfl ?_
              refine g_bipush (v := nI 16) h dX6_lineBy_32 (by decide) ?_
              refine g_icmp_geN h 91 dX6_lineBy_34 (by decide) (by omega) (by omega) (fun c_34 => ?_) (fun c_34 => ?_)
              · skip
                obtain rfl : a30 = 16 := by omega
                refine g_iload h 4 dX6_lineBy_91 rfl ?_
                refine g_iload_n h 2 dX6_lineBy_93 rfl rfl ?_
                refine g_icmp_ne h 99 dX6_lineBy_94 (by decide) (fun c_94 => ?_) (fun c_94 => ?_)
                · skip
                  refine g_iinc (lv' := [(0, _), (1, _), (2, _), (3, .int (nI (a2 + 1))), (4, _), (5, _)]) h 3 [1, 2, 3, 0, 4, 5] dX6_lineBy_99 rfl (nI_add _ 1) (by decide) rfl ?_
                  refine g_goto h 2 dX6_lineBy_102 (by decide) ?_
                  refine g_lv (lv' := [(0, _), (1, _), (2, _), (3, _)]) [0, 1, 2, 3] rfl ?_
                  exact ih2 (a2 + 1) n2  (by omega) (by omega) (Eq.trans (Eq.symm (Eq.trans (if_neg c_18) (if_neg c_94))) hq2)
                · skip
                  refine g_iload_n h 3 dX6_lineBy_97 rfl rfl ?_
                  exact g_iret h hr hk dX6_lineBy_98 (Nat.zero_le _) (Nat.zero_le _) ⟨congrArg (fun z => some (Value.int z)) (Eq.trans (Eq.trans (Eq.symm (Eq.trans (if_neg c_18) (if_pos c_94))) hq2) (Eq.symm rfl)), rfl⟩
              · skip
                have hlt_34 : a30 < 16 := by omega
                refine g_iload h 4 dX6_lineBy_37 rfl ?_
                refine g_aload_n h 0 dX6_lineBy_39 rfl rfl ?_
                refine g_get (C := RX6) (T := TX6) (N := 29) h 3 (wat_M E _) rfl in_X6_lineBy_X6 (by decide) lk_X6_lineBy_16 rfl rfl dX6_lineBy_40 ?_
                refine g_iload_n h 1 dX6_lineBy_43 rfl rfl ?_
                refine g_iload h 5 dX6_lineBy_44 rfl ?_
                refine g_callS (As := [.int (nI i), .int (nI a30)]) h 2 (c_X6_at l E _ i a30 (by omega) (by omega)) rfl gX6_lineBy_X6_at rfl rfl rfl rfl (by decide +kernel) ⟨Nat.le_of_ble_eq_true rfl, Nat.le_of_ble_eq_true rfl⟩ dX6_lineBy_46 ⟨Nat.le_refl _, Nat.le_refl _⟩ (Nat.le_of_ble_eq_true rfl) ?_
                rintro _ _ ⟨rfl, hy⟩
                obtain rfl := hy.symm
                dsimp only [Option.toList, List.cons_append, List.nil_append]
                refine g_iald (n := 64) h (wat_Y E _ (i := 2) (by decide)) (by omega) (by decide) dX6_lineBy_49 ?_
                refine g_if_le h 81 dX6_lineBy_50 (by decide) (fun c_50 => ?_) (fun c_50 => ?_)
                · skip
                  refine g_iconst (v := nI 0) h dX6_lineBy_81 (by decide) ?_
                  refine g_iaddN h dX6_lineBy_82 ?_
                  refine g_istore (lv' := [(0, _), (1, _), (2, _), (3, _), (4, _), (5, _)]) h [1, 2, 3, 4, 0, 5] dX6_lineBy_83 (by decide) rfl ?_
                  refine g_iinc (lv' := [(0, _), (1, _), (2, _), (3, _), (4, _), (5, .int (nI (a30 + 1)))]) h 5 [1, 2, 3, 4, 5, 0] dX6_lineBy_85 rfl (nI_add _ 1) (by decide) rfl ?_
                  refine g_goto h 30 dX6_lineBy_88 (by decide) ?_
                  have hb30 : lp_X6_lineBy_30 x i b a2 0 (a30 + 1) = _ := (if_pos c_50)
                  refine g_lvs (lv' := [(0, .ref (aM E)), (1, .int (nI i)), (2, .int b), (3, .int (nI a2)), (4, .int (nI ((lp_X6_lineBy_30 x i b a2 0 (a30 + 1))))), (5, .int (nI (a30 + 1)))]) (by rw [hb30]) ?_
                  exact ih30 (a30 + 1) (by omega) (by omega)
                · skip
                  refine g_aload_n h 0 dX6_lineBy_53 rfl rfl ?_
                  refine g_get (C := RX6) (T := TX6) (N := 29) h 5 (wat_M E _) rfl in_X6_lineBy_X6 (by decide) lk_X6_lineBy_22 rfl rfl dX6_lineBy_54 ?_
                  refine g_iload_n h 1 dX6_lineBy_57 rfl rfl ?_
                  refine g_iload h 5 dX6_lineBy_58 rfl ?_
                  refine g_callS (As := [.int (nI i), .int (nI a30)]) h 2 (c_X6_at l E _ i a30 (by omega) (by omega)) rfl gX6_lineBy_X6_at rfl rfl rfl rfl (by decide +kernel) ⟨Nat.le_of_ble_eq_true rfl, Nat.le_of_ble_eq_true rfl⟩ dX6_lineBy_60 ⟨Nat.le_refl _, Nat.le_refl _⟩ (Nat.le_of_ble_eq_true rfl) ?_
                  rintro _ _ ⟨rfl, hy⟩
                  obtain rfl := hy.symm
                  dsimp only [Option.toList, List.cons_append, List.nil_append]
                  refine g_iald (n := 64) h (wat_Y E _ (i := 4) (by decide)) (by omega) (by decide) dX6_lineBy_63 ?_
                  refine g_aload_n h 0 dX6_lineBy_64 rfl rfl ?_
                  refine g_get (C := RX6) (T := TX6) (N := 29) h 5 (wat_M E _) rfl in_X6_lineBy_X6 (by decide) lk_X6_lineBy_22 rfl rfl dX6_lineBy_65 ?_
                  refine g_iload_n h 1 dX6_lineBy_68 rfl rfl ?_
                  refine g_iload_n h 3 dX6_lineBy_69 rfl rfl ?_
                  refine g_callS (As := [.int (nI i), .int (nI a2)]) h 2 (c_X6_at l E _ i a2 (by omega) (by omega)) rfl gX6_lineBy_X6_at rfl rfl rfl rfl (by decide +kernel) ⟨Nat.le_of_ble_eq_true rfl, Nat.le_of_ble_eq_true rfl⟩ dX6_lineBy_70 ⟨Nat.le_refl _, Nat.le_refl _⟩ (Nat.le_of_ble_eq_true rfl) ?_
                  rintro _ _ ⟨rfl, hy⟩
                  obtain rfl := hy.symm
                  dsimp only [Option.toList, List.cons_append, List.nil_append]
                  refine g_iald (n := 64) h (wat_Y E _ (i := 4) (by decide)) (by omega) (by decide) dX6_lineBy_73 ?_
                  refine g_icmp_ge h 81 dX6_lineBy_74 (by decide) (fun c_74 => ?_) (fun c_74 => ?_)
                  · skip
                    refine g_iconst (v := nI 0) h dX6_lineBy_81 (by decide) ?_
                    refine g_iaddN h dX6_lineBy_82 ?_
                    refine g_istore (lv' := [(0, _), (1, _), (2, _), (3, _), (4, _), (5, _)]) h [1, 2, 3, 4, 0, 5] dX6_lineBy_83 (by decide) rfl ?_
                    refine g_iinc (lv' := [(0, _), (1, _), (2, _), (3, _), (4, _), (5, .int (nI (a30 + 1)))]) h 5 [1, 2, 3, 4, 5, 0] dX6_lineBy_85 rfl (nI_add _ 1) (by decide) rfl ?_
                    refine g_goto h 30 dX6_lineBy_88 (by decide) ?_
                    have hb30 : lp_X6_lineBy_30 x i b a2 0 (a30 + 1) = _ := (Eq.trans (if_neg c_50) (if_pos c_74))
                    refine g_lvs (lv' := [(0, .ref (aM E)), (1, .int (nI i)), (2, .int b), (3, .int (nI a2)), (4, .int (nI ((lp_X6_lineBy_30 x i b a2 0 (a30 + 1))))), (5, .int (nI (a30 + 1)))]) (by rw [hb30]) ?_
                    exact ih30 (a30 + 1) (by omega) (by omega)
                  · skip
                    refine g_iconst (v := nI 1) h dX6_lineBy_77 (by decide) ?_
                    refine g_goto h 82 dX6_lineBy_78 (by decide) ?_
                    refine g_iaddN h dX6_lineBy_82 ?_
                    refine g_istore (lv' := [(0, _), (1, _), (2, _), (3, _), (4, _), (5, _)]) h [1, 2, 3, 4, 0, 5] dX6_lineBy_83 (by decide) rfl ?_
                    refine g_iinc (lv' := [(0, _), (1, _), (2, _), (3, _), (4, _), (5, .int (nI (a30 + 1)))]) h 5 [1, 2, 3, 4, 5, 0] dX6_lineBy_85 rfl (nI_add _ 1) (by decide) rfl ?_
                    refine g_goto h 30 dX6_lineBy_88 (by decide) ?_
                    have hb30 : lp_X6_lineBy_30 x i b a2 0 (a30 + 1) = _ := (Eq.trans (if_neg c_50) (if_neg c_74))
                    refine g_lvs (lv' := [(0, .ref (aM E)), (1, .int (nI i)), (2, .int b), (3, .int (nI a2)), (4, .int (nI ((lp_X6_lineBy_30 x i b a2 0 (a30 + 1))))), (5, .int (nI (a30 + 1)))]) (by rw [hb30]) ?_
                    exact ih30 (a30 + 1) (by omega) (by omega)
          exact loop30 (16 + 1) 0 (by omega) (by omega)
        · skip
          refine g_goto h 99 dX6_lineBy_21 (by decide) ?_
          refine g_iinc (lv' := [(0, _), (1, _), (2, _), (3, .int (nI (a2 + 1)))]) h 3 [1, 2, 3, 0] dX6_lineBy_99 rfl (nI_add _ 1) (by decide) rfl ?_
          refine g_goto h 2 dX6_lineBy_102 (by decide) ?_
          exact ih2 (a2 + 1) n2  (by omega) (by omega) (Eq.trans (Eq.symm (if_pos c_18)) hq2)
  exact loop2 (16 + 1) 0 16  (by omega) (by omega) rfl
/-- there is room for k messages more -/
def sOK (x : St) (k : Nat) : Prop := x.FM 4 = nI (nat (x.FM 4)) ∧ nat (x.FM 4) + k ≤ 400
theorem sOK_AM {x : St} {j r : Nat} {f : Nat → Int32} (h : sOK x j) : sOK (x.setAM r f) j := h
theorem sOK_FM {x : St} {j m : Nat} {v : Int32} (hm : m ≠ 4) (h : sOK x j) : sOK (x.setFM m v) j := by
  unfold sOK at h ⊢
  rw [St.FM_setFM, va_up_ne _ _ (Ne.symm hm)]
  exact h
theorem sOK.mono {x : St} {j k : Nat} (h : sOK x k) (hj : j ≤ k) : sOK x j := ⟨h.1, by have := h.2; omega⟩
theorem in_X6_send_X6 : ∀ w ∈ wsX60, w ∈ wsX6_send := by decide +kernel
theorem lk_X6_send_94 : Cond.fieldLink RX6 94 "CacheDirectoryModel" "sent" "I" ∈ wsX6_send := by decide +kernel
theorem lk_X6_send_77 : Cond.fieldLink RX6 77 "CacheDirectoryModel" "messages" "[I" ∈ wsX6_send := by decide +kernel
def s_X6_send (x : St) (mk : Int32) (ml : Int32) (mf : Int32) (mt : Int32) (mv : Int32) (mn : Int32) (mr : Int32) : St :=
  let x1 := x.setAM 22 (upd (x.AM 22) ((7 * (nat (x.FM 4))) + 0) mk)
  let x2 := x1.setAM 22 (upd (x1.AM 22) ((7 * (nat (x.FM 4))) + 1) ml)
  let x3 := x2.setAM 22 (upd (x2.AM 22) ((7 * (nat (x.FM 4))) + 2) mf)
  let x4 := x3.setAM 22 (upd (x3.AM 22) ((7 * (nat (x.FM 4))) + 3) mt)
  let x5 := x4.setAM 22 (upd (x4.AM 22) ((7 * (nat (x.FM 4))) + 4) mv)
  let x6 := x5.setAM 22 (upd (x5.AM 22) ((7 * (nat (x.FM 4))) + 5) mn)
  let x7 := x6.setAM 22 (upd (x6.AM 22) ((7 * (nat (x.FM 4))) + 6) mr)
  let x8 := x7.setFM 4 (nI ((nat (x7.FM 4)) + 1))
  x8
set_option maxRecDepth 100000 in
set_option maxHeartbeats 400000 in
theorem c_X6_send (l : Launch) (E : gE) (x : St) (mk : Int32) (ml : Int32) (mf : Int32) (mt : Int32) (mv : Int32) (mn : Int32) (mr : Int32) (hs : sOK x 1) : Ct l yX6_send wsX6_send { frames := 0, cells := 0, slots := 0, locals := 0 } E [.ref (aM E), .int mk, .int ml, .int mf, .int mt, .int mv, .int mn, .int mr] x (fun v y => v = none ∧ y = s_X6_send x mk ml mf mt mv mn mr) 0 0 := by
  refine Ct.of (cc := cX6_send) (nL := 9) (ret := none) (by decide) rfl (Nat.le_of_ble_eq_true rfl) ?_
  intro p e s m args below meth c h hr hk hname
  refine g_lvs (lv' := [(0, _), (1, _), (2, _), (3, _), (4, _), (5, _), (6, _), (7, _)]) rfl ?_
  have hs2 : nat (x.FM 4) + 1 ≤ 400 := hs.2
  refine g_bipush (v := nI 7) h dX6_send_0 (by decide) ?_
  refine g_aload_n h 0 dX6_send_2 rfl rfl ?_
  refine g_get (C := RX6) (T := TX6) (N := 29) h 27 (wat_M E _) rfl in_X6_send_X6 (by decide) lk_X6_send_94 rfl rfl dX6_send_3 ?_
  refine g_eqi (hs).1 ?_
  refine g_imulN h dX6_send_6 ?_
  refine g_istore (lv' := [(0, _), (1, _), (2, _), (3, _), (4, _), (5, _), (6, _), (7, _), (8, _)]) h [1, 2, 3, 4, 5, 6, 7, 8, 0] dX6_send_7 (by decide) rfl ?_
  refine g_aload_n h 0 dX6_send_9 rfl rfl ?_
  refine g_get (C := RX6) (T := TX6) (N := 29) h 26 (wat_M E _) rfl in_X6_send_X6 (by decide) lk_X6_send_77 rfl rfl dX6_send_10 ?_
  refine g_iload h 8 dX6_send_13 rfl ?_
  refine g_iconst (v := nI 0) h dX6_send_15 (by decide) ?_
  refine g_iaddN h dX6_send_16 ?_
  refine g_iload_n h 1 dX6_send_17 rfl rfl ?_
  refine g_iast (n := 2800) h (ws_Y E _ (i := 22) (by decide) _) (by have := hs2; omega) (by decide) dX6_send_18 ?_
  refine g_aload_n h 0 dX6_send_19 rfl rfl ?_
  refine g_get (C := RX6) (T := TX6) (N := 29) h 26 (wat_M E _) rfl in_X6_send_X6 (by decide) lk_X6_send_77 rfl rfl dX6_send_20 ?_
  refine g_iload h 8 dX6_send_23 rfl ?_
  refine g_iconst (v := nI 1) h dX6_send_25 (by decide) ?_
  refine g_iaddN h dX6_send_26 ?_
  refine g_iload_n h 2 dX6_send_27 rfl rfl ?_
  refine g_iast (n := 2800) h (ws_Y E _ (i := 22) (by decide) _) (by have := hs2; omega) (by decide) dX6_send_28 ?_
  refine g_aload_n h 0 dX6_send_29 rfl rfl ?_
  refine g_get (C := RX6) (T := TX6) (N := 29) h 26 (wat_M E _) rfl in_X6_send_X6 (by decide) lk_X6_send_77 rfl rfl dX6_send_30 ?_
  refine g_iload h 8 dX6_send_33 rfl ?_
  refine g_iconst (v := nI 2) h dX6_send_35 (by decide) ?_
  refine g_iaddN h dX6_send_36 ?_
  refine g_iload_n h 3 dX6_send_37 rfl rfl ?_
  refine g_iast (n := 2800) h (ws_Y E _ (i := 22) (by decide) _) (by have := hs2; omega) (by decide) dX6_send_38 ?_
  refine g_aload_n h 0 dX6_send_39 rfl rfl ?_
  refine g_get (C := RX6) (T := TX6) (N := 29) h 26 (wat_M E _) rfl in_X6_send_X6 (by decide) lk_X6_send_77 rfl rfl dX6_send_40 ?_
  refine g_iload h 8 dX6_send_43 rfl ?_
  refine g_iconst (v := nI 3) h dX6_send_45 (by decide) ?_
  refine g_iaddN h dX6_send_46 ?_
  refine g_iload h 4 dX6_send_47 rfl ?_
  refine g_iast (n := 2800) h (ws_Y E _ (i := 22) (by decide) _) (by have := hs2; omega) (by decide) dX6_send_49 ?_
  refine g_aload_n h 0 dX6_send_50 rfl rfl ?_
  refine g_get (C := RX6) (T := TX6) (N := 29) h 26 (wat_M E _) rfl in_X6_send_X6 (by decide) lk_X6_send_77 rfl rfl dX6_send_51 ?_
  refine g_iload h 8 dX6_send_54 rfl ?_
  refine g_iconst (v := nI 4) h dX6_send_56 (by decide) ?_
  refine g_iaddN h dX6_send_57 ?_
  refine g_iload h 5 dX6_send_58 rfl ?_
  refine g_iast (n := 2800) h (ws_Y E _ (i := 22) (by decide) _) (by have := hs2; omega) (by decide) dX6_send_60 ?_
  refine g_aload_n h 0 dX6_send_61 rfl rfl ?_
  refine g_get (C := RX6) (T := TX6) (N := 29) h 26 (wat_M E _) rfl in_X6_send_X6 (by decide) lk_X6_send_77 rfl rfl dX6_send_62 ?_
  refine g_iload h 8 dX6_send_65 rfl ?_
  refine g_iconst (v := nI 5) h dX6_send_67 (by decide) ?_
  refine g_iaddN h dX6_send_68 ?_
  refine g_iload h 6 dX6_send_69 rfl ?_
  refine g_iast (n := 2800) h (ws_Y E _ (i := 22) (by decide) _) (by have := hs2; omega) (by decide) dX6_send_71 ?_
  refine g_aload_n h 0 dX6_send_72 rfl rfl ?_
  refine g_get (C := RX6) (T := TX6) (N := 29) h 26 (wat_M E _) rfl in_X6_send_X6 (by decide) lk_X6_send_77 rfl rfl dX6_send_73 ?_
  refine g_iload h 8 dX6_send_76 rfl ?_
  refine g_bipush (v := nI 6) h dX6_send_78 (by decide) ?_
  refine g_iaddN h dX6_send_80 ?_
  refine g_iload h 7 dX6_send_81 rfl ?_
  refine g_iast (n := 2800) h (ws_Y E _ (i := 22) (by decide) _) (by have := hs2; omega) (by decide) dX6_send_83 ?_
  refine g_aload_n h 0 dX6_send_84 rfl rfl ?_
  refine g_dup h dX6_send_85 rfl ?_
  refine g_get (C := RX6) (T := TX6) (N := 29) h 27 (wat_M E _) rfl in_X6_send_X6 (by decide) lk_X6_send_94 rfl rfl dX6_send_86 ?_
  refine g_eqi ((sOK_AM (sOK_AM (sOK_AM (sOK_AM (sOK_AM (sOK_AM (sOK_AM hs)))))))).1 ?_
  refine g_iconst (v := nI 1) h dX6_send_89 (by decide) ?_
  refine g_iaddN h dX6_send_90 ?_
  refine g_put (C := RX6) (T := TX6) (N := 29) h 27 tyX6 (ws_M4 E _ _) rfl in_X6_send_X6 tyX6_ok nmX6 (by decide) lk_X6_send_94 rfl rfl rfl rfl rfl (Nat.le_of_ble_eq_true rfl) dX6_send_91 ?_
  exact g_vret h hr hk dX6_send_94 (Nat.zero_le _) (Nat.zero_le _) ⟨rfl, Eq.symm rfl⟩
theorem sOK_send {x : St} {j : Nat} (k n f t v u q : Int32) (h : sOK x (j + 1)) : sOK (s_X6_send x k n f t v u q) j := by
  have e : (s_X6_send x k n f t v u q).FM 4 = nI (nat (x.FM 4) + 1) := by
    simp only [s_X6_send, St.FM_setFM, St.FM_setAM, va_up_self]
  obtain ⟨h1, h2⟩ := h
  unfold sOK
  rw [e, show nat (nI (nat (x.FM 4) + 1)) = nat (x.FM 4) + 1 from nI_clamp (by omega)]
  exact ⟨rfl, by omega⟩
theorem in_X6_canRemove_X6 : ∀ w ∈ wsX60, w ∈ wsX6_canRemove := by decide +kernel
theorem lk_X6_canRemove_16 : Cond.fieldLink RX6 16 "CacheDirectoryModel" "states" "[I" ∈ wsX6_canRemove := by decide +kernel
theorem lk_X6_canRemove_13 : Cond.fieldLink RX6 13 "CacheDirectoryModel" "rooms" "[I" ∈ wsX6_canRemove := by decide +kernel
def r_X6_canRemove (x : St) (i : Nat) (j : Nat) : Nat :=
  if (x.AM 2 (16 * i + j)) = (nI 1) then
    1
  else
    if (x.AM 1 i) ≤ (nI (r_X6_victimsIn x i)) then
      0
    else
      1
set_option maxRecDepth 100000 in
set_option maxHeartbeats 400000 in
theorem c_X6_canRemove (l : Launch) (E : gE) (x : St) (i : Nat) (j : Nat) (hi : i < 4) (hj : j < 16) : Ct l yX6_canRemove wsX6_canRemove { frames := 2, cells := 0, slots := 0, locals := 44 } E [.ref (aM E), .int (nI i), .int (nI j)] x (fun v y => v = some (.int (nI (r_X6_canRemove x i j))) ∧ y = x) 0 0 := by
  refine Ct.of (cc := cX6_canRemove) (nL := 3) (ret := (some .boolean)) (by decide) rfl (Nat.le_of_ble_eq_true rfl) ?_
  intro p e s m args below meth c h hr hk hname
  refine g_lvs (lv' := [(0, _), (1, _), (2, _)]) rfl ?_
  refine g_aload_n h 0 dX6_canRemove_0 rfl rfl ?_
  refine g_get (C := RX6) (T := TX6) (N := 29) h 3 (wat_M E _) rfl in_X6_canRemove_X6 (by decide) lk_X6_canRemove_16 rfl rfl dX6_canRemove_1 ?_
  refine g_iload_n h 1 dX6_canRemove_4 rfl rfl ?_
  refine g_iload_n h 2 dX6_canRemove_5 rfl rfl ?_
  refine g_callS (As := [.int (nI i), .int (nI j)]) h 2 (c_X6_at l E _ i j (by omega) (by omega)) rfl gX6_canRemove_X6_at rfl rfl rfl rfl (by decide +kernel) ⟨Nat.le_of_ble_eq_true rfl, Nat.le_of_ble_eq_true rfl⟩ dX6_canRemove_6 ⟨Nat.le_refl _, Nat.le_refl _⟩ (Nat.le_of_ble_eq_true rfl) ?_
  rintro _ _ ⟨rfl, hy⟩
  obtain rfl := hy.symm
  dsimp only [Option.toList, List.cons_append, List.nil_append]
  refine g_iald (n := 64) h (wat_Y E _ (i := 2) (by decide)) (by omega) (by decide) dX6_canRemove_9 ?_
  refine g_iconst (v := nI 1) h dX6_canRemove_10 (by decide) ?_
  refine g_icmp_eq h 28 dX6_canRemove_11 (by decide) (fun c_11 => ?_) (fun c_11 => ?_)
  · skip
    refine g_iconst (v := nI 1) h dX6_canRemove_28 (by decide) ?_
    refine g_goto h 33 dX6_canRemove_29 (by decide) ?_
    exact g_zret h hr hk (by decide) dX6_canRemove_33 (Nat.zero_le _) (Nat.zero_le _) ⟨congrArg (fun z => some (Value.int (nI z))) (Eq.symm (if_pos c_11)), rfl⟩
  · skip
    refine g_aload_n h 0 dX6_canRemove_14 rfl rfl ?_
    refine g_iload_n h 1 dX6_canRemove_15 rfl rfl ?_
    refine g_callV (As := [.int (nI i)]) (C := RX6) h 1 (c_X6_victimsIn l E _ i (by omega)) rfl gX6_canRemove_X6_victimsIn rfl rfl rfl rfl (by decide +kernel) ⟨Nat.le_of_ble_eq_true rfl, Nat.le_of_ble_eq_true rfl⟩ (wat_M E _) rfl rfl dX6_canRemove_16 ⟨Nat.le_refl _, Nat.le_refl _⟩ (Nat.le_of_ble_eq_true rfl) ?_
    rintro _ _ ⟨rfl, hy⟩
    obtain rfl := hy.symm
    dsimp only [Option.toList, List.cons_append, List.nil_append]
    refine g_aload_n h 0 dX6_canRemove_19 rfl rfl ?_
    refine g_get (C := RX6) (T := TX6) (N := 29) h 2 (wat_M E _) rfl in_X6_canRemove_X6 (by decide) lk_X6_canRemove_13 rfl rfl dX6_canRemove_20 ?_
    refine g_iload_n h 1 dX6_canRemove_23 rfl rfl ?_
    refine g_iald (n := 4) h (wat_Y E _ (i := 1) (by decide)) (by omega) (by decide) dX6_canRemove_24 ?_
    refine g_icmp_ge h 32 dX6_canRemove_25 (by decide) (fun c_25 => ?_) (fun c_25 => ?_)
    · skip
      refine g_iconst (v := nI 0) h dX6_canRemove_32 (by decide) ?_
      exact g_zret h hr hk (by decide) dX6_canRemove_33 (Nat.zero_le _) (Nat.zero_le _) ⟨congrArg (fun z => some (Value.int (nI z))) (Eq.symm (Eq.trans (if_neg c_11) (if_pos c_25))), rfl⟩
    · skip
      refine g_iconst (v := nI 1) h dX6_canRemove_28 (by decide) ?_
      refine g_goto h 33 dX6_canRemove_29 (by decide) ?_
      exact g_zret h hr hk (by decide) dX6_canRemove_33 (Nat.zero_le _) (Nat.zero_le _) ⟨congrArg (fun z => some (Value.int (nI z))) (Eq.symm (Eq.trans (if_neg c_11) (if_neg c_25))), rfl⟩
theorem in_X6_remove_X6 : ∀ w ∈ wsX60, w ∈ wsX6_remove := by decide +kernel
theorem lk_X6_remove_16 : Cond.fieldLink RX6 16 "CacheDirectoryModel" "states" "[I" ∈ wsX6_remove := by decide +kernel
theorem lk_X6_remove_25 : Cond.fieldLink RX6 25 "CacheDirectoryModel" "victims" "[I" ∈ wsX6_remove := by decide +kernel
theorem lk_X6_remove_19 : Cond.fieldLink RX6 19 "CacheDirectoryModel" "values" "[I" ∈ wsX6_remove := by decide +kernel
def s_X6_remove (x : St) (i : Nat) (j : Nat) : St :=
  if (x.AM 2 (16 * i + j)) = (nI 1) then
    let x1 := x.setAM 2 (upd (x.AM 2) (16 * i + j) (nI 0))
    x1
  else
    let x2 := x.setAM 5 (upd (x.AM 5) (16 * i + j) (x.AM 3 (16 * i + j)))
    let x3 := s_X6_send x2 (nI 3) (nI j) (nI i) ((-1 : Int32)) (x2.AM 3 (16 * i + j)) (nI 0) ((-1 : Int32))
    let x4 := x3.setAM 2 (upd (x3.AM 2) (16 * i + j) (nI 0))
    x4
set_option maxRecDepth 100000 in
set_option maxHeartbeats 400000 in
theorem c_X6_remove (l : Launch) (E : gE) (x : St) (i : Nat) (j : Nat) (hi : i < 4) (hj : j < 16) (hs : sOK x 1) : Ct l yX6_remove wsX6_remove { frames := 1, cells := 0, slots := 0, locals := 28 } E [.ref (aM E), .int (nI i), .int (nI j)] x (fun v y => v = none ∧ y = s_X6_remove x i j) 0 0 := by
  refine Ct.of (cc := cX6_remove) (nL := 3) (ret := none) (by decide) rfl (Nat.le_of_ble_eq_true rfl) ?_
  intro p e s m args below meth c h hr hk hname
  refine g_lvs (lv' := [(0, _), (1, _), (2, _)]) rfl ?_
  refine g_aload_n h 0 dX6_remove_0 rfl rfl ?_
  refine g_get (C := RX6) (T := TX6) (N := 29) h 3 (wat_M E _) rfl in_X6_remove_X6 (by decide) lk_X6_remove_16 rfl rfl dX6_remove_1 ?_
  refine g_iload_n h 1 dX6_remove_4 rfl rfl ?_
  refine g_iload_n h 2 dX6_remove_5 rfl rfl ?_
  refine g_callS (As := [.int (nI i), .int (nI j)]) h 2 (c_X6_at l E _ i j (by omega) (by omega)) rfl gX6_remove_X6_at rfl rfl rfl rfl (by decide +kernel) ⟨Nat.le_of_ble_eq_true rfl, Nat.le_of_ble_eq_true rfl⟩ dX6_remove_6 ⟨Nat.le_refl _, Nat.le_refl _⟩ (Nat.le_of_ble_eq_true rfl) ?_
  rintro _ _ ⟨rfl, hy⟩
  obtain rfl := hy.symm
  dsimp only [Option.toList, List.cons_append, List.nil_append]
  refine g_iald (n := 64) h (wat_Y E _ (i := 2) (by decide)) (by omega) (by decide) dX6_remove_9 ?_
  refine g_iconst (v := nI 1) h dX6_remove_10 (by decide) ?_
  refine g_icmp_eq h 54 dX6_remove_11 (by decide) (fun c_11 => ?_) (fun c_11 => ?_)
  · skip
    refine g_aload_n h 0 dX6_remove_54 rfl rfl ?_
    refine g_get (C := RX6) (T := TX6) (N := 29) h 3 (wat_M E _) rfl in_X6_remove_X6 (by decide) lk_X6_remove_16 rfl rfl dX6_remove_55 ?_
    refine g_iload_n h 1 dX6_remove_58 rfl rfl ?_
    refine g_iload_n h 2 dX6_remove_59 rfl rfl ?_
    refine g_callS (As := [.int (nI i), .int (nI j)]) h 2 (c_X6_at l E _ i j (by omega) (by omega)) rfl gX6_remove_X6_at rfl rfl rfl rfl (by decide +kernel) ⟨Nat.le_of_ble_eq_true rfl, Nat.le_of_ble_eq_true rfl⟩ dX6_remove_60 ⟨Nat.le_refl _, Nat.le_refl _⟩ (Nat.le_of_ble_eq_true rfl) ?_
    rintro _ _ ⟨rfl, hy⟩
    obtain rfl := hy.symm
    dsimp only [Option.toList, List.cons_append, List.nil_append]
    refine g_iconst (v := nI 0) h dX6_remove_63 (by decide) ?_
    refine g_iast (n := 64) h (ws_Y E _ (i := 2) (by decide) _) (by omega) (by decide) dX6_remove_64 ?_
    exact g_vret h hr hk dX6_remove_65 (Nat.zero_le _) (Nat.zero_le _) ⟨rfl, Eq.symm (if_pos c_11)⟩
  · skip
    refine g_aload_n h 0 dX6_remove_14 rfl rfl ?_
    refine g_get (C := RX6) (T := TX6) (N := 29) h 6 (wat_M E _) rfl in_X6_remove_X6 (by decide) lk_X6_remove_25 rfl rfl dX6_remove_15 ?_
    refine g_iload_n h 1 dX6_remove_18 rfl rfl ?_
    refine g_iload_n h 2 dX6_remove_19 rfl rfl ?_
    refine g_callS (As := [.int (nI i), .int (nI j)]) h 2 (c_X6_at l E _ i j (by omega) (by omega)) rfl gX6_remove_X6_at rfl rfl rfl rfl (by decide +kernel) ⟨Nat.le_of_ble_eq_true rfl, Nat.le_of_ble_eq_true rfl⟩ dX6_remove_20 ⟨Nat.le_refl _, Nat.le_refl _⟩ (Nat.le_of_ble_eq_true rfl) ?_
    rintro _ _ ⟨rfl, hy⟩
    obtain rfl := hy.symm
    dsimp only [Option.toList, List.cons_append, List.nil_append]
    refine g_aload_n h 0 dX6_remove_23 rfl rfl ?_
    refine g_get (C := RX6) (T := TX6) (N := 29) h 4 (wat_M E _) rfl in_X6_remove_X6 (by decide) lk_X6_remove_19 rfl rfl dX6_remove_24 ?_
    refine g_iload_n h 1 dX6_remove_27 rfl rfl ?_
    refine g_iload_n h 2 dX6_remove_28 rfl rfl ?_
    refine g_callS (As := [.int (nI i), .int (nI j)]) h 2 (c_X6_at l E _ i j (by omega) (by omega)) rfl gX6_remove_X6_at rfl rfl rfl rfl (by decide +kernel) ⟨Nat.le_of_ble_eq_true rfl, Nat.le_of_ble_eq_true rfl⟩ dX6_remove_29 ⟨Nat.le_refl _, Nat.le_refl _⟩ (Nat.le_of_ble_eq_true rfl) ?_
    rintro _ _ ⟨rfl, hy⟩
    obtain rfl := hy.symm
    dsimp only [Option.toList, List.cons_append, List.nil_append]
    refine g_iald (n := 64) h (wat_Y E _ (i := 3) (by decide)) (by omega) (by decide) dX6_remove_32 ?_
    refine g_iast (n := 64) h (ws_Y E _ (i := 5) (by decide) _) (by omega) (by decide) dX6_remove_33 ?_
    refine g_aload_n h 0 dX6_remove_34 rfl rfl ?_
    refine g_iconst (v := nI 3) h dX6_remove_35 (by decide) ?_
    refine g_iload_n h 2 dX6_remove_36 rfl rfl ?_
    refine g_iload_n h 1 dX6_remove_37 rfl rfl ?_
    refine g_iconst (v := -1) h dX6_remove_38 (by decide) ?_
    refine g_aload_n h 0 dX6_remove_39 rfl rfl ?_
    refine g_get (C := RX6) (T := TX6) (N := 29) h 4 (wat_M E _) rfl in_X6_remove_X6 (by decide) lk_X6_remove_19 rfl rfl dX6_remove_40 ?_
    refine g_iload_n h 1 dX6_remove_43 rfl rfl ?_
    refine g_iload_n h 2 dX6_remove_44 rfl rfl ?_
    refine g_callS (As := [.int (nI i), .int (nI j)]) h 2 (c_X6_at l E _ i j (by omega) (by omega)) rfl gX6_remove_X6_at rfl rfl rfl rfl (by decide +kernel) ⟨Nat.le_of_ble_eq_true rfl, Nat.le_of_ble_eq_true rfl⟩ dX6_remove_45 ⟨Nat.le_refl _, Nat.le_refl _⟩ (Nat.le_of_ble_eq_true rfl) ?_
    rintro _ _ ⟨rfl, hy⟩
    obtain rfl := hy.symm
    dsimp only [Option.toList, List.cons_append, List.nil_append]
    refine g_iald (n := 64) h (wat_Y E _ (i := 3) (by decide)) (by omega) (by decide) dX6_remove_48 ?_
    refine g_iconst (v := nI 0) h dX6_remove_49 (by decide) ?_
    refine g_iconst (v := -1) h dX6_remove_50 (by decide) ?_
    refine g_callV (As := [.int (nI 3), .int (nI j), .int (nI i), .int _, .int _, .int (nI 0), .int _]) (C := RX6) h 7 (c_X6_send l E _ _ _ _ _ _ _ _ (sOK.mono ((sOK_AM hs)) (by omega))) rfl gX6_remove_X6_send rfl rfl rfl rfl (by decide +kernel) ⟨Nat.le_of_ble_eq_true rfl, Nat.le_of_ble_eq_true rfl⟩ (wat_M E _) rfl rfl dX6_remove_51 ⟨Nat.le_refl _, Nat.le_refl _⟩ (Nat.le_of_ble_eq_true rfl) ?_
    rintro _ _ ⟨rfl, hy⟩
    obtain rfl := hy.symm
    dsimp only [Option.toList, List.cons_append, List.nil_append]
    refine g_aload_n h 0 dX6_remove_54 rfl rfl ?_
    refine g_get (C := RX6) (T := TX6) (N := 29) h 3 (wat_M E _) rfl in_X6_remove_X6 (by decide) lk_X6_remove_16 rfl rfl dX6_remove_55 ?_
    refine g_iload_n h 1 dX6_remove_58 rfl rfl ?_
    refine g_iload_n h 2 dX6_remove_59 rfl rfl ?_
    refine g_callS (As := [.int (nI i), .int (nI j)]) h 2 (c_X6_at l E _ i j (by omega) (by omega)) rfl gX6_remove_X6_at rfl rfl rfl rfl (by decide +kernel) ⟨Nat.le_of_ble_eq_true rfl, Nat.le_of_ble_eq_true rfl⟩ dX6_remove_60 ⟨Nat.le_refl _, Nat.le_refl _⟩ (Nat.le_of_ble_eq_true rfl) ?_
    rintro _ _ ⟨rfl, hy⟩
    obtain rfl := hy.symm
    dsimp only [Option.toList, List.cons_append, List.nil_append]
    refine g_iconst (v := nI 0) h dX6_remove_63 (by decide) ?_
    refine g_iast (n := 64) h (ws_Y E _ (i := 2) (by decide) _) (by omega) (by decide) dX6_remove_64 ?_
    exact g_vret h hr hk dX6_remove_65 (Nat.zero_le _) (Nat.zero_le _) ⟨rfl, Eq.symm (if_neg c_11)⟩
theorem sOK_remove {x : St} {i j n : Nat} (h : sOK x (n + 1)) : sOK (s_X6_remove x i j) n := by
  unfold s_X6_remove
  split
  · exact sOK_AM (h.mono (by omega))
  · exact sOK_AM (sOK_send _ _ _ _ _ _ _ (sOK_AM h))
theorem in_X6_leaving_X6 : ∀ w ∈ wsX60, w ∈ wsX6_leaving := by decide +kernel
theorem lk_X6_leaving_16 : Cond.fieldLink RX6 16 "CacheDirectoryModel" "states" "[I" ∈ wsX6_leaving := by decide +kernel
theorem lk_X6_leaving_7 : Cond.fieldLink RX6 7 "CacheDirectoryModel" "ways" "[I" ∈ wsX6_leaving := by decide +kernel
def r_X6_leaving (x : St) (i : Nat) (j : Nat) : Int32 :=
  if (x.AM 2 (16 * i + j)) = 0 then
    if (nI (r_X6_linesIn x i)) = (x.AM 0 i) then
      r_X6_lineBy x i (nI 0)
    else
      (-1 : Int32)
  else
    (-1 : Int32)
set_option maxRecDepth 100000 in
set_option maxHeartbeats 400000 in
theorem c_X6_leaving (l : Launch) (E : gE) (x : St) (i : Nat) (j : Nat) (hi : i < 4) (hj : j < 16) : Ct l yX6_leaving wsX6_leaving { frames := 2, cells := 0, slots := 0, locals := 46 } E [.ref (aM E), .int (nI i), .int (nI j)] x (fun v y => v = some (.int (r_X6_leaving x i j)) ∧ y = x) 0 0 := by
  refine Ct.of (cc := cX6_leaving) (nL := 3) (ret := (some .int)) (by decide) rfl (Nat.le_of_ble_eq_true rfl) ?_
  intro p e s m args below meth c h hr hk hname
  refine g_lvs (lv' := [(0, _), (1, _), (2, _)]) rfl ?_
  refine g_aload_n h 0 dX6_leaving_0 rfl rfl ?_
  refine g_get (C := RX6) (T := TX6) (N := 29) h 3 (wat_M E _) rfl in_X6_leaving_X6 (by decide) lk_X6_leaving_16 rfl rfl dX6_leaving_1 ?_
  refine g_iload_n h 1 dX6_leaving_4 rfl rfl ?_
  refine g_iload_n h 2 dX6_leaving_5 rfl rfl ?_
  refine g_callS (As := [.int (nI i), .int (nI j)]) h 2 (c_X6_at l E _ i j (by omega) (by omega)) rfl gX6_leaving_X6_at rfl rfl rfl rfl (by decide +kernel) ⟨Nat.le_of_ble_eq_true rfl, Nat.le_of_ble_eq_true rfl⟩ dX6_leaving_6 ⟨Nat.le_refl _, Nat.le_refl _⟩ (Nat.le_of_ble_eq_true rfl) ?_
  rintro _ _ ⟨rfl, hy⟩
  obtain rfl := hy.symm
  dsimp only [Option.toList, List.cons_append, List.nil_append]
  refine g_iald (n := 64) h (wat_Y E _ (i := 2) (by decide)) (by omega) (by decide) dX6_leaving_9 ?_
  refine g_if_ne h 36 dX6_leaving_10 (by decide) (fun c_10 => ?_) (fun c_10 => ?_)
  · skip
    refine g_iconst (v := -1) h dX6_leaving_36 (by decide) ?_
    exact g_iret h hr hk dX6_leaving_37 (Nat.zero_le _) (Nat.zero_le _) ⟨congrArg (fun z => some (Value.int z)) (Eq.symm (if_neg c_10)), rfl⟩
  · skip
    refine g_aload_n h 0 dX6_leaving_13 rfl rfl ?_
    refine g_iload_n h 1 dX6_leaving_14 rfl rfl ?_
    refine g_callV (As := [.int (nI i)]) (C := RX6) h 1 (c_X6_linesIn l E _ i (by omega)) rfl gX6_leaving_X6_linesIn rfl rfl rfl rfl (by decide +kernel) ⟨Nat.le_of_ble_eq_true rfl, Nat.le_of_ble_eq_true rfl⟩ (wat_M E _) rfl rfl dX6_leaving_15 ⟨Nat.le_refl _, Nat.le_refl _⟩ (Nat.le_of_ble_eq_true rfl) ?_
    rintro _ _ ⟨rfl, hy⟩
    obtain rfl := hy.symm
    dsimp only [Option.toList, List.cons_append, List.nil_append]
    refine g_aload_n h 0 dX6_leaving_18 rfl rfl ?_
    refine g_get (C := RX6) (T := TX6) (N := 29) h 1 (wat_M E _) rfl in_X6_leaving_X6 (by decide) lk_X6_leaving_7 rfl rfl dX6_leaving_19 ?_
    refine g_iload_n h 1 dX6_leaving_22 rfl rfl ?_
    refine g_iald (n := 4) h (wat_Y E _ (i := 0) (by decide)) (by omega) (by decide) dX6_leaving_23 ?_
    refine g_icmp_ne h 36 dX6_leaving_24 (by decide) (fun c_24 => ?_) (fun c_24 => ?_)
    · skip
      refine g_iconst (v := -1) h dX6_leaving_36 (by decide) ?_
      exact g_iret h hr hk dX6_leaving_37 (Nat.zero_le _) (Nat.zero_le _) ⟨congrArg (fun z => some (Value.int z)) (Eq.symm (Eq.trans (if_pos c_10) (if_neg c_24))), rfl⟩
    · skip
      refine g_aload_n h 0 dX6_leaving_27 rfl rfl ?_
      refine g_iload_n h 1 dX6_leaving_28 rfl rfl ?_
      refine g_iconst (v := nI 0) h dX6_leaving_29 (by decide) ?_
      refine g_callV (As := [.int (nI i), .int (nI 0)]) (C := RX6) h 2 (c_X6_lineBy l E _ i 0 (by omega)) rfl gX6_leaving_X6_lineBy rfl rfl rfl rfl (by decide +kernel) ⟨Nat.le_of_ble_eq_true rfl, Nat.le_of_ble_eq_true rfl⟩ (wat_M E _) rfl rfl dX6_leaving_30 ⟨Nat.le_refl _, Nat.le_refl _⟩ (Nat.le_of_ble_eq_true rfl) ?_
      rintro _ _ ⟨rfl, hy⟩
      obtain rfl := hy.symm
      dsimp only [Option.toList, List.cons_append, List.nil_append]
      refine g_goto h 37 dX6_leaving_33 (by decide) ?_
      exact g_iret h hr hk dX6_leaving_37 (Nat.zero_le _) (Nat.zero_le _) ⟨congrArg (fun z => some (Value.int z)) (Eq.symm (Eq.trans (if_pos c_10) (if_pos c_24))), rfl⟩
