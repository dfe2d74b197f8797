theorem in_X5_writebacks_X1 : ∀ w ∈ wsX10, w ∈ wsX5_writebacks := by decide +kernel
theorem in_X5_writebacks_X5 : ∀ w ∈ wsX50, w ∈ wsX5_writebacks := by decide +kernel
theorem lk_X5_writebacks_27 : Cond.fieldLink RX5 27 "CacheDirectory" "homes" "[LCacheDirectory$Home;" ∈ wsX5_writebacks := by decide +kernel
theorem lk_X5_writebacks_192 : Cond.fieldLink RX5 192 "CacheDirectory$Home" "timelyPuts" "I" ∈ wsX5_writebacks := by decide +kernel
def lp_X5_writebacks_4 (v : Vw)  (b4_0 : Int32) : Nat → Int32
  | 0 => b4_0
  | a4 + 1 =>
  ((lp_X5_writebacks_4 v b4_0 a4)) + (v.x.FH a4 7)
def r_X5_writebacks (v : Vw)  : Int32 :=
  (lp_X5_writebacks_4 v (nI 0) 16)
set_option maxRecDepth 100000 in
set_option maxHeartbeats 400000 in
theorem c_X5_writebacks (l : Launch) (E : gE) (x : St) (v : Vw) (hs : List (Nat × M7)) (hV : VW x v [] hs)   : Ct l yX5_writebacks wsX5_writebacks { frames := 0, cells := 0, slots := 0, locals := 0 } E [.ref (aD E)] x (fun u y => u = some (.int (r_X5_writebacks v )) ∧ y = x) 0 0 := by
  refine Ct.of (cc := cX5_writebacks) (nL := 3) (ret := (some .int)) (by decide) rfl (Nat.le_of_ble_eq_true rfl) ?_
  intro p e s m args below meth c h hr hk hname
  refine g_lvs (lv' := [(0, _)]) rfl ?_
  refine g_iconst (v := nI 0) h dX5_writebacks_0 (by decide) ?_
  refine g_istore_n (lv' := [(0, _), (1, _)]) h [1, 0] dX5_writebacks_1 rfl (by decide) rfl ?_
  refine g_iconst (v := nI 0) h dX5_writebacks_2 (by decide) ?_
  refine g_istore_n (lv' := [(0, _), (1, _), (2, _)]) h [1, 2, 0] dX5_writebacks_3 rfl (by decide) rfl ?_
  have loop4 : ∀ (k4 a4 : Nat), (16) - a4 < k4 → a4 ≤ 16 → gG p l e ({ frames := 0, cells := 0, slots := 0, locals := 0 } : Room) s m args below meth c (gQ below E x s (fun u y => u = some (.int (r_X5_writebacks v )) ∧ y = x) args 0 0) E x 3 0 0 x 4 [(0, .ref (aD E)), (1, .int ((lp_X5_writebacks_4 v (nI 0) a4))), (2, .int (nI a4))] [] := by
    intro k4
    induction k4 with
    | zero => intro a4 hk4; exact absurd hk4 (by omega)
    | succ k4 ih4 =>
      intro a4 hk4 ha4
      refine g_iload_n h 2 dX5_writebacks_4 rfl rfl ?_
      refine g_bipush (v := nI 16) h dX5_writebacks_5 (by decide) ?_
      refine g_icmp_geN h 28 dX5_writebacks_7 (by decide) (by omega) (by omega) (fun c_7 => ?_) (fun c_7 => ?_)
      · skip
        obtain rfl : a4 = 16 := by omega
        refine g_iload_n h 1 dX5_writebacks_28 rfl rfl ?_
        exact g_iret h hr hk dX5_writebacks_29 (by omega) (by omega) ⟨congrArg (fun z => some (Value.int z)) (Eq.symm rfl), rfl⟩
      · skip
        have hlt_7 : a4 < 16 := by omega
        refine g_iload_n h 1 dX5_writebacks_10 rfl rfl ?_
        refine g_aload_n h 0 dX5_writebacks_11 rfl rfl ?_
        refine g_get (C := RX5) (T := TX5) (N := 3) h 2 (wat_D E _) rfl in_X5_writebacks_X5 (by decide) lk_X5_writebacks_27 rfl rfl dX5_writebacks_12 ?_
        refine g_iload_n h 2 dX5_writebacks_15 rfl rfl ?_
        refine g_qald (t0 := 3) h (wat_Hs E _) rfl (by omega) (by decide) rfl dX5_writebacks_16 ?_
        refine g_get (C := RX1) (T := TX1) (N := 9) h 7 (wat_H E _ (by omega)) rfl in_X5_writebacks_X1 (by decide) lk_X5_writebacks_192 rfl rfl dX5_writebacks_17 ?_
        refine g_eqi (hV.FH _ _) ?_
        refine g_iadd h dX5_writebacks_20 ?_
        refine g_istore_n (lv' := [(0, _), (1, _), (2, _)]) h [1, 0, 2] dX5_writebacks_21 rfl (by decide) rfl ?_
        refine g_iinc (lv' := [(0, _), (1, _), (2, .int (nI (a4 + 1)))]) h 2 [1, 2, 0] dX5_writebacks_22 rfl (nI_add _ 1) (by decide) rfl ?_
        refine g_goto h 4 dX5_writebacks_25 (by decide) ?_
        have hb4 : lp_X5_writebacks_4 v (nI 0) (a4 + 1) = ((lp_X5_writebacks_4 v (nI 0) a4)) + (v.x.FH a4 7) := rfl
        refine g_lvs (lv' := [(0, .ref (aD E)), (1, .int ((lp_X5_writebacks_4 v (nI 0) (a4 + 1)))), (2, .int (nI (a4 + 1)))]) (by rw [hb4]) ?_
        exact ih4 (a4 + 1) (by omega) (by omega)
  exact loop4 (16 + 1) 0 (by omega) (by omega)
theorem in_X5_lateWritebacks_X1 : ∀ w ∈ wsX10, w ∈ wsX5_lateWritebacks := by decide +kernel
theorem in_X5_lateWritebacks_X5 : ∀ w ∈ wsX50, w ∈ wsX5_lateWritebacks := by decide +kernel
theorem lk_X5_lateWritebacks_27 : Cond.fieldLink RX5 27 "CacheDirectory" "homes" "[LCacheDirectory$Home;" ∈ wsX5_lateWritebacks := by decide +kernel
theorem lk_X5_lateWritebacks_195 : Cond.fieldLink RX5 195 "CacheDirectory$Home" "latePuts" "I" ∈ wsX5_lateWritebacks := by decide +kernel
def lp_X5_lateWritebacks_4 (v : Vw)  (b4_0 : Int32) : Nat → Int32
  | 0 => b4_0
  | a4 + 1 =>
  ((lp_X5_lateWritebacks_4 v b4_0 a4)) + (v.x.FH a4 8)
def r_X5_lateWritebacks (v : Vw)  : Int32 :=
  (lp_X5_lateWritebacks_4 v (nI 0) 16)
set_option maxRecDepth 100000 in
set_option maxHeartbeats 400000 in
theorem c_X5_lateWritebacks (l : Launch) (E : gE) (x : St) (v : Vw) (hs : List (Nat × M7)) (hV : VW x v [] hs)   : Ct l yX5_lateWritebacks wsX5_lateWritebacks { frames := 0, cells := 0, slots := 0, locals := 0 } E [.ref (aD E)] x (fun u y => u = some (.int (r_X5_lateWritebacks v )) ∧ y = x) 0 0 := by
  refine Ct.of (cc := cX5_lateWritebacks) (nL := 3) (ret := (some .int)) (by decide) rfl (Nat.le_of_ble_eq_true rfl) ?_
  intro p e s m args below meth c h hr hk hname
  refine g_lvs (lv' := [(0, _)]) rfl ?_
  refine g_iconst (v := nI 0) h dX5_lateWritebacks_0 (by decide) ?_
  refine g_istore_n (lv' := [(0, _), (1, _)]) h [1, 0] dX5_lateWritebacks_1 rfl (by decide) rfl ?_
  refine g_iconst (v := nI 0) h dX5_lateWritebacks_2 (by decide) ?_
  refine g_istore_n (lv' := [(0, _), (1, _), (2, _)]) h [1, 2, 0] dX5_lateWritebacks_3 rfl (by decide) rfl ?_
  have loop4 : ∀ (k4 a4 : Nat), (16) - a4 < k4 → a4 ≤ 16 → gG p l e ({ frames := 0, cells := 0, slots := 0, locals := 0 } : Room) s m args below meth c (gQ below E x s (fun u y => u = some (.int (r_X5_lateWritebacks v )) ∧ y = x) args 0 0) E x 3 0 0 x 4 [(0, .ref (aD E)), (1, .int ((lp_X5_lateWritebacks_4 v (nI 0) a4))), (2, .int (nI a4))] [] := by
    intro k4
    induction k4 with
    | zero => intro a4 hk4; exact absurd hk4 (by omega)
    | succ k4 ih4 =>
      intro a4 hk4 ha4
      refine g_iload_n h 2 dX5_lateWritebacks_4 rfl rfl ?_
      refine g_bipush (v := nI 16) h dX5_lateWritebacks_5 (by decide) ?_
      refine g_icmp_geN h 28 dX5_lateWritebacks_7 (by decide) (by omega) (by omega) (fun c_7 => ?_) (fun c_7 => ?_)
      · skip
        obtain rfl : a4 = 16 := by omega
        refine g_iload_n h 1 dX5_lateWritebacks_28 rfl rfl ?_
        exact g_iret h hr hk dX5_lateWritebacks_29 (by omega) (by omega) ⟨congrArg (fun z => some (Value.int z)) (Eq.symm rfl), rfl⟩
      · skip
        have hlt_7 : a4 < 16 := by omega
        refine g_iload_n h 1 dX5_lateWritebacks_10 rfl rfl ?_
        refine g_aload_n h 0 dX5_lateWritebacks_11 rfl rfl ?_
        refine g_get (C := RX5) (T := TX5) (N := 3) h 2 (wat_D E _) rfl in_X5_lateWritebacks_X5 (by decide) lk_X5_lateWritebacks_27 rfl rfl dX5_lateWritebacks_12 ?_
        refine g_iload_n h 2 dX5_lateWritebacks_15 rfl rfl ?_
        refine g_qald (t0 := 3) h (wat_Hs E _) rfl (by omega) (by decide) rfl dX5_lateWritebacks_16 ?_
        refine g_get (C := RX1) (T := TX1) (N := 9) h 8 (wat_H E _ (by omega)) rfl in_X5_lateWritebacks_X1 (by decide) lk_X5_lateWritebacks_195 rfl rfl dX5_lateWritebacks_17 ?_
        refine g_eqi (hV.FH _ _) ?_
        refine g_iadd h dX5_lateWritebacks_20 ?_
        refine g_istore_n (lv' := [(0, _), (1, _), (2, _)]) h [1, 0, 2] dX5_lateWritebacks_21 rfl (by decide) rfl ?_
        refine g_iinc (lv' := [(0, _), (1, _), (2, .int (nI (a4 + 1)))]) h 2 [1, 2, 0] dX5_lateWritebacks_22 rfl (nI_add _ 1) (by decide) rfl ?_
        refine g_goto h 4 dX5_lateWritebacks_25 (by decide) ?_
        have hb4 : lp_X5_lateWritebacks_4 v (nI 0) (a4 + 1) = ((lp_X5_lateWritebacks_4 v (nI 0) a4)) + (v.x.FH a4 8) := rfl
        refine g_lvs (lv' := [(0, .ref (aD E)), (1, .int ((lp_X5_lateWritebacks_4 v (nI 0) (a4 + 1)))), (2, .int (nI (a4 + 1)))]) (by rw [hb4]) ?_
        exact ih4 (a4 + 1) (by omega) (by omega)
  exact loop4 (16 + 1) 0 (by omega) (by omega)
theorem in_X5_addLine_X0 : ∀ w ∈ wsX00, w ∈ wsX5_addLine := by decide +kernel
theorem in_X5_addLine_X1 : ∀ w ∈ wsX10, w ∈ wsX5_addLine := by decide +kernel
theorem in_X5_addLine_X5 : ∀ w ∈ wsX50, w ∈ wsX5_addLine := by decide +kernel
theorem lk_X5_addLine_159 : Cond.fieldLink RX5 159 "CacheDirectory$Home" "memoryValue" "I" ∈ wsX5_addLine := by decide +kernel
theorem lk_X5_addLine_139 : Cond.fieldLink RX5 139 "CacheDirectory$Home" "ownerCache" "I" ∈ wsX5_addLine := by decide +kernel
theorem lk_X5_addLine_142 : Cond.fieldLink RX5 142 "CacheDirectory$Home" "sharerSet" "I" ∈ wsX5_addLine := by decide +kernel
theorem lk_X5_addLine_145 : Cond.fieldLink RX5 145 "CacheDirectory$Home" "busy" "Z" ∈ wsX5_addLine := by decide +kernel
theorem lk_X5_addLine_149 : Cond.fieldLink RX5 149 "CacheDirectory$Home" "waiting" "Ljava/util/ArrayList;" ∈ wsX5_addLine := by decide +kernel
theorem lk_X5_addLine_18 : Cond.fieldLink RX5 18 "CacheDirectory" "caches" "[LCacheDirectory$Cache;" ∈ wsX5_addLine := by decide +kernel
theorem lk_X5_addLine_89 : Cond.fieldLink RX5 89 "CacheDirectory$Cache" "states" "[I" ∈ wsX5_addLine := by decide +kernel
theorem lk_X5_addLine_79 : Cond.fieldLink RX5 79 "CacheDirectory$Cache" "values" "[I" ∈ wsX5_addLine := by decide +kernel
theorem lk_X5_addLine_118 : Cond.fieldLink RX5 118 "CacheDirectory$Cache" "victimValues" "[I" ∈ wsX5_addLine := by decide +kernel
def lp_X5_addLine_95 (v : Vw) (b : Int64) (j : Nat) (b95_0 : Int64) : Nat → Int64
  | 0 => b95_0
  | a95 + 1 =>
  (((((((lp_X5_addLine_95 v b j b95_0 a95)) * ((31 : Int64))) + ((v.x.AC a95 0 j).toInt64)) * ((31 : Int64))) + ((v.x.AC a95 1 j).toInt64)) * ((31 : Int64))) + ((v.x.AC a95 2 j).toInt64)
def r_X5_addLine (v : Vw) (b : Int64) (j : Nat) : Int64 :=
  if (v.x.FH j 6) = 0 then
    (lp_X5_addLine_95 v b j ((((((((((b * ((31 : Int64))) + ((v.x.FH j 3).toInt64)) * ((31 : Int64))) + ((v.x.FH j 4).toInt64)) * ((31 : Int64))) + ((v.x.FH j 5).toInt64)) * ((31 : Int64))) + ((nI 0).toInt64)) * ((31 : Int64))) + ((nI ((v.q j).length)).toInt64)) 4)
  else
    (lp_X5_addLine_95 v b j ((((((((((b * ((31 : Int64))) + ((v.x.FH j 3).toInt64)) * ((31 : Int64))) + ((v.x.FH j 4).toInt64)) * ((31 : Int64))) + ((v.x.FH j 5).toInt64)) * ((31 : Int64))) + ((nI 1).toInt64)) * ((31 : Int64))) + ((nI ((v.q j).length)).toInt64)) 4)
set_option maxRecDepth 100000 in
set_option maxHeartbeats 400000 in
theorem c_X5_addLine (l : Launch) (E : gE) (x : St) (v : Vw) (hs : List (Nat × M7)) (hV : VW x v [] hs) (b : Int64) (j : Nat) (hj : j < 16) : Ct l yX5_addLine wsX5_addLine { frames := 2, cells := 0, slots := 0, locals := 41 } E [.ref (aD E), .long b, .int (nI j)] x (fun u y => u = some (.long (r_X5_addLine v b j)) ∧ y = x) 0 0 := by
  refine Ct.of (cc := cX5_addLine) (nL := 8) (ret := (some .long)) (by decide) rfl (Nat.le_of_ble_eq_true rfl) ?_
  intro p e s m args below meth c h hr hk hname
  refine g_lvs (lv' := [(0, _), (1, _), (3, _)]) rfl ?_
  refine g_aload_n h 0 dX5_addLine_0 rfl rfl ?_
  refine g_iload_n h 2 dX5_addLine_1 rfl rfl ?_
  refine g_callV (As := [.int (nI j)]) (C := RX5) h 1 (c_X5_homeOf l E _ j (by omega)) rfl gX5_addLine_X5_homeOf rfl rfl rfl rfl (by decide +kernel) ⟨Nat.le_of_ble_eq_true rfl, Nat.le_of_ble_eq_true rfl⟩ (wat_D E _) rfl rfl dX5_addLine_2 ⟨by dsimp only; omega, by dsimp only; omega⟩ (Nat.le_of_ble_eq_true rfl) ?_
  rintro _ _ ⟨rfl, hy⟩
  obtain rfl := hy.symm
  dsimp only [Option.toList, List.cons_append, List.nil_append]
  refine g_astore (lv' := [(0, _), (1, _), (3, _), (4, _)]) h [1, 2, 3, 0] dX5_addLine_5 (by decide) rfl ?_
  refine g_lload_n h 1 dX5_addLine_7 rfl rfl ?_
  refine g_ldc2_w (v := 31) h dX5_addLine_8 (by decide +kernel) ?_
  refine g_lmul h dX5_addLine_11 ?_
  refine g_aload h 3 dX5_addLine_12 rfl ?_
  refine g_get (C := RX1) (T := TX1) (N := 9) h 3 (wat_H E _ (by omega)) rfl in_X5_addLine_X1 (by decide) lk_X5_addLine_159 rfl rfl dX5_addLine_14 ?_
  refine g_eqi (hV.FH _ _) ?_
  refine g_i2l h dX5_addLine_17 ?_
  refine g_ladd h dX5_addLine_18 ?_
  refine g_lstore (lv' := [(0, _), (1, _), (3, _), (4, _), (5, _)]) h [1, 2, 3, 4, 0] dX5_addLine_19 (by decide) rfl ?_
  refine g_lload h 4 dX5_addLine_21 rfl ?_
  refine g_ldc2_w (v := 31) h dX5_addLine_23 (by decide +kernel) ?_
  refine g_lmul h dX5_addLine_26 ?_
  refine g_aload h 3 dX5_addLine_27 rfl ?_
  refine g_get (C := RX1) (T := TX1) (N := 9) h 4 (wat_H E _ (by omega)) rfl in_X5_addLine_X1 (by decide) lk_X5_addLine_139 rfl rfl dX5_addLine_29 ?_
  refine g_eqi (hV.FH _ _) ?_
  refine g_i2l h dX5_addLine_32 ?_
  refine g_ladd h dX5_addLine_33 ?_
  refine g_lstore (lv' := [(0, _), (1, _), (3, _), (4, _), (5, _)]) h [1, 2, 3, 4, 0] dX5_addLine_34 (by decide) rfl ?_
  refine g_lload h 4 dX5_addLine_36 rfl ?_
  refine g_ldc2_w (v := 31) h dX5_addLine_38 (by decide +kernel) ?_
  refine g_lmul h dX5_addLine_41 ?_
  refine g_aload h 3 dX5_addLine_42 rfl ?_
  refine g_get (C := RX1) (T := TX1) (N := 9) h 5 (wat_H E _ (by omega)) rfl in_X5_addLine_X1 (by decide) lk_X5_addLine_142 rfl rfl dX5_addLine_44 ?_
  refine g_eqi (hV.FH _ _) ?_
  refine g_i2l h dX5_addLine_47 ?_
  refine g_ladd h dX5_addLine_48 ?_
  refine g_lstore (lv' := [(0, _), (1, _), (3, _), (4, _), (5, _)]) h [1, 2, 3, 4, 0] dX5_addLine_49 (by decide) rfl ?_
  refine g_lload h 4 dX5_addLine_51 rfl ?_
  refine g_ldc2_w (v := 31) h dX5_addLine_53 (by decide +kernel) ?_
  refine g_lmul h dX5_addLine_56 ?_
  refine g_aload h 3 dX5_addLine_57 rfl ?_
  refine g_get (C := RX1) (T := TX1) (N := 9) h 6 (wat_H E _ (by omega)) rfl in_X5_addLine_X1 (by decide) lk_X5_addLine_145 rfl rfl dX5_addLine_59 ?_
  refine g_eqi (hV.FH _ _) ?_
  refine g_if_eq h 69 dX5_addLine_62 (by decide) (fun c_62 => ?_) (fun c_62 => ?_)
  · skip
    refine g_iconst (v := nI 0) h dX5_addLine_69 (by decide) ?_
    refine g_i2l h dX5_addLine_70 ?_
    refine g_ladd h dX5_addLine_71 ?_
    refine g_lstore (lv' := [(0, _), (1, _), (3, _), (4, _), (5, _)]) h [1, 2, 3, 4, 0] dX5_addLine_72 (by decide) rfl ?_
    refine g_lload h 4 dX5_addLine_74 rfl ?_
    refine g_ldc2_w (v := 31) h dX5_addLine_76 (by decide +kernel) ?_
    refine g_lmul h dX5_addLine_79 ?_
    refine g_aload h 3 dX5_addLine_80 rfl ?_
    refine g_get (C := RX1) (T := TX1) (N := 9) h 2 (wat_H E _ (by omega)) rfl in_X5_addLine_X1 (by decide) lk_X5_addLine_149 rfl rfl dX5_addLine_82 ?_
    refine g_callV (As := []) (C := RJx4a65c) h 0 (c_Jx4a65c_size_8abf5 l E _ j (by omega)) rfl gX5_addLine_Jx4a65c_size_8abf5 rfl rfl rfl rfl (by decide +kernel) ⟨Nat.le_of_ble_eq_true rfl, Nat.le_of_ble_eq_true rfl⟩ (wat_L E _ (by omega)) rfl rfl dX5_addLine_85 ⟨by dsimp only; omega, by dsimp only; omega⟩ (Nat.le_of_ble_eq_true rfl) ?_
    rintro _ _ ⟨rfl, hy⟩
    obtain rfl := hy.symm
    have s1 := hV.size (j := j) (by omega)
    dsimp only [Option.toList, List.cons_append, List.nil_append]
    refine g_eqi s1.1 ?_
    refine g_i2l h dX5_addLine_88 ?_
    refine g_ladd h dX5_addLine_89 ?_
    refine g_lstore (lv' := [(0, _), (1, _), (3, _), (4, _), (5, _)]) h [1, 2, 3, 4, 0] dX5_addLine_90 (by decide) rfl ?_
    refine g_iconst (v := nI 0) h dX5_addLine_92 (by decide) ?_
    refine g_istore (lv' := [(0, _), (1, _), (3, _), (4, _), (5, _), (7, _)]) h [1, 2, 3, 4, 5, 0] dX5_addLine_93 (by decide) rfl ?_
    have loop95 : ∀ (k95 a95 : Nat), (4) - a95 < k95 → a95 ≤ 4 → gG p l e ({ frames := 2, cells := 0, slots := 0, locals := 41 } : Room) s m args below meth c (gQ below E x s (fun u y => u = some (.long (r_X5_addLine v b j)) ∧ y = x) args 0 0) E x 8 0 0 x 95 [(0, .ref (aD E)), (1, .long b), (3, .int (nI j)), (4, .ref (aH E j)), (5, .long ((lp_X5_addLine_95 v b j ((((((((((b * ((31 : Int64))) + ((v.x.FH j 3).toInt64)) * ((31 : Int64))) + ((v.x.FH j 4).toInt64)) * ((31 : Int64))) + ((v.x.FH j 5).toInt64)) * ((31 : Int64))) + ((nI 0).toInt64)) * ((31 : Int64))) + ((nI ((v.q j).length)).toInt64)) a95))), (7, .int (nI a95))] [] := by
      intro k95
      induction k95 with
      | zero => intro a95 hk95; exact absurd hk95 (by omega)
      | succ k95 ih95 =>
        intro a95 hk95 ha95
        refine g_iload h 5 dX5_addLine_95 rfl ?_
        refine g_iconst (v := nI 4) h dX5_addLine_97 (by decide) ?_
        refine g_icmp_geN h 173 dX5_addLine_98 (by decide) (by omega) (by omega) (fun c_98 => ?_) (fun c_98 => ?_)
        · skip
          obtain rfl : a95 = 4 := by omega
          refine g_lload h 4 dX5_addLine_173 rfl ?_
          exact g_lret h hr hk dX5_addLine_175 (by omega) (by omega) ⟨congrArg (fun z => some (Value.long z)) (Eq.symm (if_pos c_62)), rfl⟩
        · skip
          have hlt_98 : a95 < 4 := by omega
          refine g_lload h 4 dX5_addLine_101 rfl ?_
          refine g_ldc2_w (v := 31) h dX5_addLine_103 (by decide +kernel) ?_
          refine g_lmul h dX5_addLine_106 ?_
          refine g_aload_n h 0 dX5_addLine_107 rfl rfl ?_
          refine g_get (C := RX5) (T := TX5) (N := 3) h 1 (wat_D E _) rfl in_X5_addLine_X5 (by decide) lk_X5_addLine_18 rfl rfl dX5_addLine_108 ?_
          refine g_iload h 5 dX5_addLine_111 rfl ?_
          refine g_qald (t0 := 2) h (wat_Cs E _) rfl (by omega) (by decide) rfl dX5_addLine_113 ?_
          refine g_get (C := RX0) (T := TX0) (N := 14) h 3 (wat_C E _ (by omega)) rfl in_X5_addLine_X0 (by decide) lk_X5_addLine_89 rfl rfl dX5_addLine_114 ?_
          refine g_iload_n h 2 dX5_addLine_117 rfl rfl ?_
          refine g_iald (n := 16) h (wat_A16 E _ (by omega) (by decide)) (by omega) (by decide) dX5_addLine_118 ?_
          refine g_eqi (hV.AC _ _ _) ?_
          refine g_i2l h dX5_addLine_119 ?_
          refine g_ladd h dX5_addLine_120 ?_
          refine g_lstore (lv' := [(0, _), (1, _), (3, _), (4, _), (5, _), (7, _)]) h [1, 2, 3, 4, 0, 5] dX5_addLine_121 (by decide) rfl ?_
          refine g_lload h 4 dX5_addLine_123 rfl ?_
          refine g_ldc2_w (v := 31) h dX5_addLine_125 (by decide +kernel) ?_
          refine g_lmul h dX5_addLine_128 ?_
          refine g_aload_n h 0 dX5_addLine_129 rfl rfl ?_
          refine g_get (C := RX5) (T := TX5) (N := 3) h 1 (wat_D E _) rfl in_X5_addLine_X5 (by decide) lk_X5_addLine_18 rfl rfl dX5_addLine_130 ?_
          refine g_iload h 5 dX5_addLine_133 rfl ?_
          refine g_qald (t0 := 2) h (wat_Cs E _) rfl (by omega) (by decide) rfl dX5_addLine_135 ?_
          refine g_get (C := RX0) (T := TX0) (N := 14) h 4 (wat_C E _ (by omega)) rfl in_X5_addLine_X0 (by decide) lk_X5_addLine_79 rfl rfl dX5_addLine_136 ?_
          refine g_iload_n h 2 dX5_addLine_139 rfl rfl ?_
          refine g_iald (n := 16) h (wat_A16 E _ (by omega) (by decide)) (by omega) (by decide) dX5_addLine_140 ?_
          refine g_eqi (hV.AC _ _ _) ?_
          refine g_i2l h dX5_addLine_141 ?_
          refine g_ladd h dX5_addLine_142 ?_
          refine g_lstore (lv' := [(0, _), (1, _), (3, _), (4, _), (5, _), (7, _)]) h [1, 2, 3, 4, 0, 5] dX5_addLine_143 (by decide) rfl ?_
          refine g_lload h 4 dX5_addLine_145 rfl ?_
          refine g_ldc2_w (v := 31) h dX5_addLine_147 (by decide +kernel) ?_
          refine g_lmul h dX5_addLine_150 ?_
          refine g_aload_n h 0 dX5_addLine_151 rfl rfl ?_
          refine g_get (C := RX5) (T := TX5) (N := 3) h 1 (wat_D E _) rfl in_X5_addLine_X5 (by decide) lk_X5_addLine_18 rfl rfl dX5_addLine_152 ?_
          refine g_iload h 5 dX5_addLine_155 rfl ?_
          refine g_qald (t0 := 2) h (wat_Cs E _) rfl (by omega) (by decide) rfl dX5_addLine_157 ?_
          refine g_get (C := RX0) (T := TX0) (N := 14) h 5 (wat_C E _ (by omega)) rfl in_X5_addLine_X0 (by decide) lk_X5_addLine_118 rfl rfl dX5_addLine_158 ?_
          refine g_iload_n h 2 dX5_addLine_161 rfl rfl ?_
          refine g_iald (n := 16) h (wat_A16 E _ (by omega) (by decide)) (by omega) (by decide) dX5_addLine_162 ?_
          refine g_eqi (hV.AC _ _ _) ?_
          refine g_i2l h dX5_addLine_163 ?_
          refine g_ladd h dX5_addLine_164 ?_
          refine g_lstore (lv' := [(0, _), (1, _), (3, _), (4, _), (5, _), (7, _)]) h [1, 2, 3, 4, 0, 5] dX5_addLine_165 (by decide) rfl ?_
          refine g_iinc (lv' := [(0, _), (1, _), (3, _), (4, _), (5, _), (7, .int (nI (a95 + 1)))]) h 5 [1, 2, 3, 4, 5, 0] dX5_addLine_167 rfl (nI_add _ 1) (by decide) rfl ?_
          refine g_goto h 95 dX5_addLine_170 (by decide) ?_
          have hb95 : lp_X5_addLine_95 v b j ((((((((((b * ((31 : Int64))) + ((v.x.FH j 3).toInt64)) * ((31 : Int64))) + ((v.x.FH j 4).toInt64)) * ((31 : Int64))) + ((v.x.FH j 5).toInt64)) * ((31 : Int64))) + ((nI 0).toInt64)) * ((31 : Int64))) + ((nI ((v.q j).length)).toInt64)) (a95 + 1) = (((((((lp_X5_addLine_95 v b j ((((((((((b * ((31 : Int64))) + ((v.x.FH j 3).toInt64)) * ((31 : Int64))) + ((v.x.FH j 4).toInt64)) * ((31 : Int64))) + ((v.x.FH j 5).toInt64)) * ((31 : Int64))) + ((nI 0).toInt64)) * ((31 : Int64))) + ((nI ((v.q j).length)).toInt64)) a95)) * ((31 : Int64))) + ((v.x.AC a95 0 j).toInt64)) * ((31 : Int64))) + ((v.x.AC a95 1 j).toInt64)) * ((31 : Int64))) + ((v.x.AC a95 2 j).toInt64) := rfl
          refine g_lvs (lv' := [(0, .ref (aD E)), (1, .long b), (3, .int (nI j)), (4, .ref (aH E j)), (5, .long ((lp_X5_addLine_95 v b j ((((((((((b * ((31 : Int64))) + ((v.x.FH j 3).toInt64)) * ((31 : Int64))) + ((v.x.FH j 4).toInt64)) * ((31 : Int64))) + ((v.x.FH j 5).toInt64)) * ((31 : Int64))) + ((nI 0).toInt64)) * ((31 : Int64))) + ((nI ((v.q j).length)).toInt64)) (a95 + 1)))), (7, .int (nI (a95 + 1)))]) (by rw [hb95]) ?_
          exact ih95 (a95 + 1) (by omega) (by omega)
    exact loop95 (4 + 1) 0 (by omega) (by omega)
  · skip
    refine g_iconst (v := nI 1) h dX5_addLine_65 (by decide) ?_
    refine g_goto h 70 dX5_addLine_66 (by decide) ?_
    refine g_i2l h dX5_addLine_70 ?_
    refine g_ladd h dX5_addLine_71 ?_
    refine g_lstore (lv' := [(0, _), (1, _), (3, _), (4, _), (5, _)]) h [1, 2, 3, 4, 0] dX5_addLine_72 (by decide) rfl ?_
    refine g_lload h 4 dX5_addLine_74 rfl ?_
    refine g_ldc2_w (v := 31) h dX5_addLine_76 (by decide +kernel) ?_
    refine g_lmul h dX5_addLine_79 ?_
    refine g_aload h 3 dX5_addLine_80 rfl ?_
    refine g_get (C := RX1) (T := TX1) (N := 9) h 2 (wat_H E _ (by omega)) rfl in_X5_addLine_X1 (by decide) lk_X5_addLine_149 rfl rfl dX5_addLine_82 ?_
    refine g_callV (As := []) (C := RJx4a65c) h 0 (c_Jx4a65c_size_8abf5 l E _ j (by omega)) rfl gX5_addLine_Jx4a65c_size_8abf5 rfl rfl rfl rfl (by decide +kernel) ⟨Nat.le_of_ble_eq_true rfl, Nat.le_of_ble_eq_true rfl⟩ (wat_L E _ (by omega)) rfl rfl dX5_addLine_85 ⟨by dsimp only; omega, by dsimp only; omega⟩ (Nat.le_of_ble_eq_true rfl) ?_
    rintro _ _ ⟨rfl, hy⟩
    obtain rfl := hy.symm
    have s1 := hV.size (j := j) (by omega)
    dsimp only [Option.toList, List.cons_append, List.nil_append]
    refine g_eqi s1.1 ?_
    refine g_i2l h dX5_addLine_88 ?_
    refine g_ladd h dX5_addLine_89 ?_
    refine g_lstore (lv' := [(0, _), (1, _), (3, _), (4, _), (5, _)]) h [1, 2, 3, 4, 0] dX5_addLine_90 (by decide) rfl ?_
    refine g_iconst (v := nI 0) h dX5_addLine_92 (by decide) ?_
    refine g_istore (lv' := [(0, _), (1, _), (3, _), (4, _), (5, _), (7, _)]) h [1, 2, 3, 4, 5, 0] dX5_addLine_93 (by decide) rfl ?_
    have loop95 : ∀ (k95 a95 : Nat), (4) - a95 < k95 → a95 ≤ 4 → gG p l e ({ frames := 2, cells := 0, slots := 0, locals := 41 } : Room) s m args below meth c (gQ below E x s (fun u y => u = some (.long (r_X5_addLine v b j)) ∧ y = x) args 0 0) E x 8 0 0 x 95 [(0, .ref (aD E)), (1, .long b), (3, .int (nI j)), (4, .ref (aH E j)), (5, .long ((lp_X5_addLine_95 v b j ((((((((((b * ((31 : Int64))) + ((v.x.FH j 3).toInt64)) * ((31 : Int64))) + ((v.x.FH j 4).toInt64)) * ((31 : Int64))) + ((v.x.FH j 5).toInt64)) * ((31 : Int64))) + ((nI 1).toInt64)) * ((31 : Int64))) + ((nI ((v.q j).length)).toInt64)) a95))), (7, .int (nI a95))] [] := by
      intro k95
      induction k95 with
      | zero => intro a95 hk95; exact absurd hk95 (by omega)
      | succ k95 ih95 =>
        intro a95 hk95 ha95
        refine g_iload h 5 dX5_addLine_95 rfl ?_
        refine g_iconst (v := nI 4) h dX5_addLine_97 (by decide) ?_
        refine g_icmp_geN h 173 dX5_addLine_98 (by decide) (by omega) (by omega) (fun c_98 => ?_) (fun c_98 => ?_)
        · skip
          obtain rfl : a95 = 4 := by omega
          refine g_lload h 4 dX5_addLine_173 rfl ?_
          exact g_lret h hr hk dX5_addLine_175 (by omega) (by omega) ⟨congrArg (fun z => some (Value.long z)) (Eq.symm (if_neg c_62)), rfl⟩
        · skip
          have hlt_98 : a95 < 4 := by omega
          refine g_lload h 4 dX5_addLine_101 rfl ?_
          refine g_ldc2_w (v := 31) h dX5_addLine_103 (by decide +kernel) ?_
          refine g_lmul h dX5_addLine_106 ?_
          refine g_aload_n h 0 dX5_addLine_107 rfl rfl ?_
          refine g_get (C := RX5) (T := TX5) (N := 3) h 1 (wat_D E _) rfl in_X5_addLine_X5 (by decide) lk_X5_addLine_18 rfl rfl dX5_addLine_108 ?_
          refine g_iload h 5 dX5_addLine_111 rfl ?_
          refine g_qald (t0 := 2) h (wat_Cs E _) rfl (by omega) (by decide) rfl dX5_addLine_113 ?_
          refine g_get (C := RX0) (T := TX0) (N := 14) h 3 (wat_C E _ (by omega)) rfl in_X5_addLine_X0 (by decide) lk_X5_addLine_89 rfl rfl dX5_addLine_114 ?_
          refine g_iload_n h 2 dX5_addLine_117 rfl rfl ?_
          refine g_iald (n := 16) h (wat_A16 E _ (by omega) (by decide)) (by omega) (by decide) dX5_addLine_118 ?_
          refine g_eqi (hV.AC _ _ _) ?_
          refine g_i2l h dX5_addLine_119 ?_
          refine g_ladd h dX5_addLine_120 ?_
          refine g_lstore (lv' := [(0, _), (1, _), (3, _), (4, _), (5, _), (7, _)]) h [1, 2, 3, 4, 0, 5] dX5_addLine_121 (by decide) rfl ?_
          refine g_lload h 4 dX5_addLine_123 rfl ?_
          refine g_ldc2_w (v := 31) h dX5_addLine_125 (by decide +kernel) ?_
          refine g_lmul h dX5_addLine_128 ?_
          refine g_aload_n h 0 dX5_addLine_129 rfl rfl ?_
          refine g_get (C := RX5) (T := TX5) (N := 3) h 1 (wat_D E _) rfl in_X5_addLine_X5 (by decide) lk_X5_addLine_18 rfl rfl dX5_addLine_130 ?_
          refine g_iload h 5 dX5_addLine_133 rfl ?_
          refine g_qald (t0 := 2) h (wat_Cs E _) rfl (by omega) (by decide) rfl dX5_addLine_135 ?_
          refine g_get (C := RX0) (T := TX0) (N := 14) h 4 (wat_C E _ (by omega)) rfl in_X5_addLine_X0 (by decide) lk_X5_addLine_79 rfl rfl dX5_addLine_136 ?_
          refine g_iload_n h 2 dX5_addLine_139 rfl rfl ?_
          refine g_iald (n := 16) h (wat_A16 E _ (by omega) (by decide)) (by omega) (by decide) dX5_addLine_140 ?_
          refine g_eqi (hV.AC _ _ _) ?_
          refine g_i2l h dX5_addLine_141 ?_
          refine g_ladd h dX5_addLine_142 ?_
          refine g_lstore (lv' := [(0, _), (1, _), (3, _), (4, _), (5, _), (7, _)]) h [1, 2, 3, 4, 0, 5] dX5_addLine_143 (by decide) rfl ?_
          refine g_lload h 4 dX5_addLine_145 rfl ?_
          refine g_ldc2_w (v := 31) h dX5_addLine_147 (by decide +kernel) ?_
          refine g_lmul h dX5_addLine_150 ?_
          refine g_aload_n h 0 dX5_addLine_151 rfl rfl ?_
          refine g_get (C := RX5) (T := TX5) (N := 3) h 1 (wat_D E _) rfl in_X5_addLine_X5 (by decide) lk_X5_addLine_18 rfl rfl dX5_addLine_152 ?_
          refine g_iload h 5 dX5_addLine_155 rfl ?_
          refine g_qald (t0 := 2) h (wat_Cs E _) rfl (by omega) (by decide) rfl dX5_addLine_157 ?_
          refine g_get (C := RX0) (T := TX0) (N := 14) h 5 (wat_C E _ (by omega)) rfl in_X5_addLine_X0 (by decide) lk_X5_addLine_118 rfl rfl dX5_addLine_158 ?_
          refine g_iload_n h 2 dX5_addLine_161 rfl rfl ?_
          refine g_iald (n := 16) h (wat_A16 E _ (by omega) (by decide)) (by omega) (by decide) dX5_addLine_162 ?_
          refine g_eqi (hV.AC _ _ _) ?_
          refine g_i2l h dX5_addLine_163 ?_
          refine g_ladd h dX5_addLine_164 ?_
          refine g_lstore (lv' := [(0, _), (1, _), (3, _), (4, _), (5, _), (7, _)]) h [1, 2, 3, 4, 0, 5] dX5_addLine_165 (by decide) rfl ?_
          refine g_iinc (lv' := [(0, _), (1, _), (3, _), (4, _), (5, _), (7, .int (nI (a95 + 1)))]) h 5 [1, 2, 3, 4, 5, 0] dX5_addLine_167 rfl (nI_add _ 1) (by decide) rfl ?_
          refine g_goto h 95 dX5_addLine_170 (by decide) ?_
          have hb95 : lp_X5_addLine_95 v b j ((((((((((b * ((31 : Int64))) + ((v.x.FH j 3).toInt64)) * ((31 : Int64))) + ((v.x.FH j 4).toInt64)) * ((31 : Int64))) + ((v.x.FH j 5).toInt64)) * ((31 : Int64))) + ((nI 1).toInt64)) * ((31 : Int64))) + ((nI ((v.q j).length)).toInt64)) (a95 + 1) = (((((((lp_X5_addLine_95 v b j ((((((((((b * ((31 : Int64))) + ((v.x.FH j 3).toInt64)) * ((31 : Int64))) + ((v.x.FH j 4).toInt64)) * ((31 : Int64))) + ((v.x.FH j 5).toInt64)) * ((31 : Int64))) + ((nI 1).toInt64)) * ((31 : Int64))) + ((nI ((v.q j).length)).toInt64)) a95)) * ((31 : Int64))) + ((v.x.AC a95 0 j).toInt64)) * ((31 : Int64))) + ((v.x.AC a95 1 j).toInt64)) * ((31 : Int64))) + ((v.x.AC a95 2 j).toInt64) := rfl
          refine g_lvs (lv' := [(0, .ref (aD E)), (1, .long b), (3, .int (nI j)), (4, .ref (aH E j)), (5, .long ((lp_X5_addLine_95 v b j ((((((((((b * ((31 : Int64))) + ((v.x.FH j 3).toInt64)) * ((31 : Int64))) + ((v.x.FH j 4).toInt64)) * ((31 : Int64))) + ((v.x.FH j 5).toInt64)) * ((31 : Int64))) + ((nI 1).toInt64)) * ((31 : Int64))) + ((nI ((v.q j).length)).toInt64)) (a95 + 1)))), (7, .int (nI (a95 + 1)))]) (by rw [hb95]) ?_
          exact ih95 (a95 + 1) (by omega) (by omega)
    exact loop95 (4 + 1) 0 (by omega) (by omega)
theorem in_X5_digest_X0 : ∀ w ∈ wsX00, w ∈ wsX5_digest := by decide +kernel
theorem in_X5_digest_X2 : ∀ w ∈ wsX20, w ∈ wsX5_digest := by decide +kernel
theorem in_X5_digest_X3 : ∀ w ∈ wsX30, w ∈ wsX5_digest := by decide +kernel
theorem in_X5_digest_X4 : ∀ w ∈ wsX40, w ∈ wsX5_digest := by decide +kernel
theorem in_X5_digest_X5 : ∀ w ∈ wsX50, w ∈ wsX5_digest := by decide +kernel
theorem lk_X5_digest_10 : Cond.fieldLink RX5 10 "CacheDirectory" "network" "LCacheDirectory$Network;" ∈ wsX5_digest := by decide +kernel
theorem lk_X5_digest_162 : Cond.fieldLink RX5 162 "CacheDirectory$Network" "onTheWay" "Ljava/util/ArrayList;" ∈ wsX5_digest := by decide +kernel
theorem lk_X5_digest_169 : Cond.fieldLink RX5 169 "CacheDirectory$Message" "kind" "I" ∈ wsX5_digest := by decide +kernel
theorem lk_X5_digest_174 : Cond.fieldLink RX5 174 "CacheDirectory$Message" "line" "I" ∈ wsX5_digest := by decide +kernel
theorem lk_X5_digest_175 : Cond.fieldLink RX5 175 "CacheDirectory$Message" "sender" "I" ∈ wsX5_digest := by decide +kernel
theorem lk_X5_digest_178 : Cond.fieldLink RX5 178 "CacheDirectory$Message" "receiver" "I" ∈ wsX5_digest := by decide +kernel
theorem lk_X5_digest_18 : Cond.fieldLink RX5 18 "CacheDirectory" "caches" "[LCacheDirectory$Cache;" ∈ wsX5_digest := by decide +kernel
theorem lk_X5_digest_99 : Cond.fieldLink RX5 99 "CacheDirectory$Cache" "request" "LCacheDirectory$Request;" ∈ wsX5_digest := by decide +kernel
theorem lk_X5_digest_103 : Cond.fieldLink RX5 103 "CacheDirectory$Request" "line" "I" ∈ wsX5_digest := by decide +kernel
def lp_X5_digest_60 (v : Vw)  (b60_0 : Int64) : Nat → Int64
  | 0 => b60_0
  | a60 + 1 =>
  (((((((((lp_X5_digest_60 v b60_0 a60)) * ((31 : Int64))) + ((mat v 16 a60 0).toInt64)) * ((31 : Int64))) + ((mat v 16 a60 1).toInt64)) * ((31 : Int64))) + ((mat v 16 a60 2).toInt64)) * ((31 : Int64))) + ((mat v 16 a60 3).toInt64)
def lp_X5_digest_27 (v : Vw)  (b27_0 : Int64) : Nat → Int64
  | 0 => b27_0
  | a27 + 1 =>
  (((lp_X5_digest_27 v b27_0 a27)) * ((31 : Int64))) + ((v.x.FR a27 0).toInt64)
def lp_X5_digest_6 (v : Vw)  (b6_0 : Int64) : Nat → Int64
  | 0 => b6_0
  | a6 + 1 =>
  r_X5_addLine v ((lp_X5_digest_6 v b6_0 a6)) a6
def r_X5_digest (v : Vw)  : Int64 :=
  (lp_X5_digest_60 v ((lp_X5_digest_27 v ((lp_X5_digest_6 v ((47 : Int64)) 16)) 4)) ((v.q 16).length))
set_option maxRecDepth 100000 in
set_option maxHeartbeats 400000 in
theorem c_X5_digest (l : Launch) (E : gE) (x : St) (v : Vw) (hs : List (Nat × M7)) (hV : VW x v [] hs)   : Ct l yX5_digest wsX5_digest { frames := 3, cells := 0, slots := 0, locals := 68 } E [.ref (aD E)] x (fun u y => u = some (.long (r_X5_digest v )) ∧ y = x) 0 0 := by
  refine Ct.of (cc := cX5_digest) (nL := 5) (ret := (some .long)) (by decide) rfl (Nat.le_of_ble_eq_true rfl) ?_
  intro p e s m args below meth c h hr hk hname
  refine g_lvs (lv' := [(0, _)]) rfl ?_
  have hsz := (hV.size (j := 16) (by omega)).2
  refine g_ldc2_w (v := 47) h dX5_digest_0 (by decide +kernel) ?_
  refine g_lstore_n (lv' := [(0, _), (1, _)]) h [1, 0] dX5_digest_3 rfl (by decide) rfl ?_
  refine g_iconst (v := nI 0) h dX5_digest_4 (by decide) ?_
  refine g_istore_n (lv' := [(0, _), (1, _), (3, _)]) h [1, 2, 0] dX5_digest_5 rfl (by decide) rfl ?_
  have loop6 : ∀ (k6 a6 : Nat), (16) - a6 < k6 → a6 ≤ 16 → gG p l e ({ frames := 3, cells := 0, slots := 0, locals := 68 } : Room) s m args below meth c (gQ below E x s (fun u y => u = some (.long (r_X5_digest v )) ∧ y = x) args 0 0) E x 5 0 0 x 6 [(0, .ref (aD E)), (1, .long ((lp_X5_digest_6 v ((47 : Int64)) a6))), (3, .int (nI a6))] [] := by
    intro k6
    induction k6 with
    | zero => intro a6 hk6; exact absurd hk6 (by omega)
    | succ k6 ih6 =>
      intro a6 hk6 ha6
      refine g_iload_n h 2 dX5_digest_6 rfl rfl ?_
      refine g_bipush (v := nI 16) h dX5_digest_7 (by decide) ?_
      refine g_icmp_geN h 25 dX5_digest_9 (by decide) (by omega) (by omega) (fun c_9 => ?_) (fun c_9 => ?_)
      · skip
        obtain rfl : a6 = 16 := by omega
        refine g_iconst (v := nI 0) h dX5_digest_25 (by decide) ?_
        refine g_istore_n (lv' := [(0, _), (1, _), (3, _)]) h [1, 2, 0] dX5_digest_26 rfl (by decide) rfl ?_
        have loop27 : ∀ (k27 a27 : Nat), (4) - a27 < k27 → a27 ≤ 4 → gG p l e ({ frames := 3, cells := 0, slots := 0, locals := 68 } : Room) s m args below meth c (gQ below E x s (fun u y => u = some (.long (r_X5_digest v )) ∧ y = x) args 0 0) E x 5 0 0 x 27 [(0, .ref (aD E)), (1, .long ((lp_X5_digest_27 v ((lp_X5_digest_6 v ((47 : Int64)) 16)) a27))), (3, .int (nI a27))] [] := by
          intro k27
          induction k27 with
          | zero => intro a27 hk27; exact absurd hk27 (by omega)
          | succ k27 ih27 =>
            intro a27 hk27 ha27
            refine g_iload_n h 2 dX5_digest_27 rfl rfl ?_
            refine g_iconst (v := nI 4) h dX5_digest_28 (by decide) ?_
            refine g_icmp_geN h 58 dX5_digest_29 (by decide) (by omega) (by omega) (fun c_29 => ?_) (fun c_29 => ?_)
            · skip
              obtain rfl : a27 = 4 := by omega
              refine g_iconst (v := nI 0) h dX5_digest_58 (by decide) ?_
              refine g_istore_n (lv' := [(0, _), (1, _), (3, _)]) h [1, 2, 0] dX5_digest_59 rfl (by decide) rfl ?_
              have loop60 : ∀ (k60 a60 : Nat), ((v.q 16).length) - a60 < k60 → a60 ≤ (v.q 16).length → gG p l e ({ frames := 3, cells := 0, slots := 0, locals := 68 } : Room) s m args below meth c (gQ below E x s (fun u y => u = some (.long (r_X5_digest v )) ∧ y = x) args 0 0) E x 5 0 0 x 60 [(0, .ref (aD E)), (1, .long ((lp_X5_digest_60 v ((lp_X5_digest_27 v ((lp_X5_digest_6 v ((47 : Int64)) 16)) 4)) a60))), (3, .int (nI a60))] [] := by
                intro k60
                induction k60 with
                | zero => intro a60 hk60; exact absurd hk60 (by omega)
                | succ k60 ih60 =>
                  intro a60 hk60 ha60
                  refine g_iload_n h 2 dX5_digest_60 rfl rfl ?_
                  refine g_aload_n h 0 dX5_digest_61 rfl rfl ?_
                  refine g_get (C := RX5) (T := TX5) (N := 3) h 0 (wat_D E _) rfl in_X5_digest_X5 (by decide) lk_X5_digest_10 rfl rfl dX5_digest_62 ?_
                  refine g_get (C := RX3) (T := TX3) (N := 1) h 0 (wat_N E _) rfl in_X5_digest_X3 (by decide) lk_X5_digest_162 rfl rfl dX5_digest_65 ?_
                  refine g_callV (As := []) (C := RJx4a65c) h 0 (c_Jx4a65c_size_8abf5 l E _ 16 (by omega)) rfl gX5_digest_Jx4a65c_size_8abf5 rfl rfl rfl rfl (by decide +kernel) ⟨Nat.le_of_ble_eq_true rfl, Nat.le_of_ble_eq_true rfl⟩ (wat_L E _ (by omega)) rfl rfl dX5_digest_68 ⟨by dsimp only; omega, by dsimp only; omega⟩ (Nat.le_of_ble_eq_true rfl) ?_
                  rintro _ _ ⟨rfl, hy⟩
                  obtain rfl := hy.symm
                  have s1 := hV.size (j := 16) (by omega)
                  dsimp only [Option.toList, List.cons_append, List.nil_append]
                  refine g_eqi s1.1 ?_
                  refine g_icmp_geN h 148 dX5_digest_71 (by decide) (by omega) (by omega) (fun c_71 => ?_) (fun c_71 => ?_)
                  · skip
                    obtain rfl : a60 = (v.q 16).length := by omega
                    refine g_lload_n h 1 dX5_digest_148 rfl rfl ?_
                    exact g_lret h hr hk dX5_digest_149 (by omega) (by omega) ⟨congrArg (fun z => some (Value.long z)) (Eq.symm rfl), rfl⟩
                  · skip
                    have hlt_71 : a60 < (v.q 16).length := by omega
                    refine g_aload_n h 0 dX5_digest_74 rfl rfl ?_
                    refine g_get (C := RX5) (T := TX5) (N := 3) h 0 (wat_D E _) rfl in_X5_digest_X5 (by decide) lk_X5_digest_10 rfl rfl dX5_digest_75 ?_
                    refine g_get (C := RX3) (T := TX3) (N := 1) h 0 (wat_N E _) rfl in_X5_digest_X3 (by decide) lk_X5_digest_162 rfl rfl dX5_digest_78 ?_
                    refine g_iload_n h 2 dX5_digest_81 rfl rfl ?_
                    refine g_callV (As := [.int (nI a60)]) (C := RJx4a65c) h 1 (c_get l E _ _ _ 16 a60 (by omega) hV (by omega)) rfl gX5_digest_Jx4a65c_get_915e3 rfl rfl rfl rfl (by decide +kernel) ⟨Nat.le_of_ble_eq_true rfl, Nat.le_of_ble_eq_true rfl⟩ (wat_L E _ (by omega)) rfl rfl dX5_digest_82 ⟨by dsimp only; omega, by dsimp only; omega⟩ (Nat.le_of_ble_eq_true rfl) ?_
                    rintro _ _ ⟨a9, rfl, hy, hm1, hm2, hm3, hm4⟩
                    obtain rfl := hy.symm
                    dsimp only [Option.toList, List.cons_append, List.nil_append]
                    refine g_cast h (by decide +kernel) hm1 hm2 dX5_digest_85 ?_
                    refine g_astore (lv' := [(0, _), (1, _), (3, _), (4, _)]) h [1, 2, 3, 0] dX5_digest_88 (by decide) rfl ?_
                    refine g_lload_n h 1 dX5_digest_90 rfl rfl ?_
                    refine g_ldc2_w (v := 31) h dX5_digest_91 (by decide +kernel) ?_
                    refine g_lmul h dX5_digest_94 ?_
                    refine g_aload h 3 dX5_digest_95 rfl ?_
                    refine g_get (C := RX2) (T := TX2) (N := 7) h 0 (wat_Ms E _ hm1 hm2) rfl in_X5_digest_X2 (by decide) lk_X5_digest_169 rfl rfl dX5_digest_97 ?_
                    refine g_eqi (hm3 _) ?_
                    refine g_i2l h dX5_digest_100 ?_
                    refine g_ladd h dX5_digest_101 ?_
                    refine g_lstore_n (lv' := [(0, _), (1, _), (3, _), (4, _)]) h [1, 0, 2, 3] dX5_digest_102 rfl (by decide) rfl ?_
                    refine g_lload_n h 1 dX5_digest_103 rfl rfl ?_
                    refine g_ldc2_w (v := 31) h dX5_digest_104 (by decide +kernel) ?_
                    refine g_lmul h dX5_digest_107 ?_
                    refine g_aload h 3 dX5_digest_108 rfl ?_
                    refine g_get (C := RX2) (T := TX2) (N := 7) h 1 (wat_Ms E _ hm1 hm2) rfl in_X5_digest_X2 (by decide) lk_X5_digest_174 rfl rfl dX5_digest_110 ?_
                    refine g_eqi (hm3 _) ?_
                    refine g_i2l h dX5_digest_113 ?_
                    refine g_ladd h dX5_digest_114 ?_
                    refine g_lstore_n (lv' := [(0, _), (1, _), (3, _), (4, _)]) h [1, 0, 2, 3] dX5_digest_115 rfl (by decide) rfl ?_
                    refine g_lload_n h 1 dX5_digest_116 rfl rfl ?_
                    refine g_ldc2_w (v := 31) h dX5_digest_117 (by decide +kernel) ?_
                    refine g_lmul h dX5_digest_120 ?_
                    refine g_aload h 3 dX5_digest_121 rfl ?_
                    refine g_get (C := RX2) (T := TX2) (N := 7) h 2 (wat_Ms E _ hm1 hm2) rfl in_X5_digest_X2 (by decide) lk_X5_digest_175 rfl rfl dX5_digest_123 ?_
                    refine g_eqi (hm3 _) ?_
                    refine g_i2l h dX5_digest_126 ?_
                    refine g_ladd h dX5_digest_127 ?_
                    refine g_lstore_n (lv' := [(0, _), (1, _), (3, _), (4, _)]) h [1, 0, 2, 3] dX5_digest_128 rfl (by decide) rfl ?_
                    refine g_lload_n h 1 dX5_digest_129 rfl rfl ?_
                    refine g_ldc2_w (v := 31) h dX5_digest_130 (by decide +kernel) ?_
                    refine g_lmul h dX5_digest_133 ?_
                    refine g_aload h 3 dX5_digest_134 rfl ?_
                    refine g_get (C := RX2) (T := TX2) (N := 7) h 3 (wat_Ms E _ hm1 hm2) rfl in_X5_digest_X2 (by decide) lk_X5_digest_178 rfl rfl dX5_digest_136 ?_
                    refine g_eqi (hm3 _) ?_
                    refine g_i2l h dX5_digest_139 ?_
                    refine g_ladd h dX5_digest_140 ?_
                    refine g_lstore_n (lv' := [(0, _), (1, _), (3, _), (4, _)]) h [1, 0, 2, 3] dX5_digest_141 rfl (by decide) rfl ?_
                    refine g_iinc (lv' := [(0, _), (1, _), (3, .int (nI (a60 + 1))), (4, _)]) h 2 [1, 2, 0, 3] dX5_digest_142 rfl (nI_add _ 1) (by decide) rfl ?_
                    refine g_goto h 60 dX5_digest_145 (by decide) ?_
                    refine g_lv (lv' := [(0, _), (1, _), (3, _)]) [0, 1, 2] rfl ?_
                    have hb60 : lp_X5_digest_60 v ((lp_X5_digest_27 v ((lp_X5_digest_6 v ((47 : Int64)) 16)) 4)) (a60 + 1) = (((((((((lp_X5_digest_60 v ((lp_X5_digest_27 v ((lp_X5_digest_6 v ((47 : Int64)) 16)) 4)) a60)) * ((31 : Int64))) + ((mat v 16 a60 0).toInt64)) * ((31 : Int64))) + ((mat v 16 a60 1).toInt64)) * ((31 : Int64))) + ((mat v 16 a60 2).toInt64)) * ((31 : Int64))) + ((mat v 16 a60 3).toInt64) := rfl
                    refine g_lvs (lv' := [(0, .ref (aD E)), (1, .long ((lp_X5_digest_60 v ((lp_X5_digest_27 v ((lp_X5_digest_6 v ((47 : Int64)) 16)) 4)) (a60 + 1)))), (3, .int (nI (a60 + 1)))]) (by rw [hb60]) ?_
                    exact ih60 (a60 + 1) (by omega) (by omega)
              exact loop60 ((v.q 16).length + 1) 0 (by omega) (by omega)
            · skip
              have hlt_29 : a27 < 4 := by omega
              refine g_lload_n h 1 dX5_digest_32 rfl rfl ?_
              refine g_ldc2_w (v := 31) h dX5_digest_33 (by decide +kernel) ?_
              refine g_lmul h dX5_digest_36 ?_
              refine g_aload_n h 0 dX5_digest_37 rfl rfl ?_
              refine g_get (C := RX5) (T := TX5) (N := 3) h 1 (wat_D E _) rfl in_X5_digest_X5 (by decide) lk_X5_digest_18 rfl rfl dX5_digest_38 ?_
              refine g_iload_n h 2 dX5_digest_41 rfl rfl ?_
              refine g_qald (t0 := 2) h (wat_Cs E _) rfl (by omega) (by decide) rfl dX5_digest_42 ?_
              refine g_get (C := RX0) (T := TX0) (N := 14) h 2 (wat_C E _ (by omega)) rfl in_X5_digest_X0 (by decide) lk_X5_digest_99 rfl rfl dX5_digest_43 ?_
              refine g_get (C := RX4) (T := TX4) (N := 7) h 0 (wat_R E _ (by omega)) rfl in_X5_digest_X4 (by decide) lk_X5_digest_103 rfl rfl dX5_digest_46 ?_
              refine g_eqi (hV.FR _ _) ?_
              refine g_i2l h dX5_digest_49 ?_
              refine g_ladd h dX5_digest_50 ?_
              refine g_lstore_n (lv' := [(0, _), (1, _), (3, _)]) h [1, 0, 2] dX5_digest_51 rfl (by decide) rfl ?_
              refine g_iinc (lv' := [(0, _), (1, _), (3, .int (nI (a27 + 1)))]) h 2 [1, 2, 0] dX5_digest_52 rfl (nI_add _ 1) (by decide) rfl ?_
              refine g_goto h 27 dX5_digest_55 (by decide) ?_
              have hb27 : lp_X5_digest_27 v ((lp_X5_digest_6 v ((47 : Int64)) 16)) (a27 + 1) = (((lp_X5_digest_27 v ((lp_X5_digest_6 v ((47 : Int64)) 16)) a27)) * ((31 : Int64))) + ((v.x.FR a27 0).toInt64) := rfl
              refine g_lvs (lv' := [(0, .ref (aD E)), (1, .long ((lp_X5_digest_27 v ((lp_X5_digest_6 v ((47 : Int64)) 16)) (a27 + 1)))), (3, .int (nI (a27 + 1)))]) (by rw [hb27]) ?_
              exact ih27 (a27 + 1) (by omega) (by omega)
        exact loop27 (4 + 1) 0 (by omega) (by omega)
      · skip
        have hlt_9 : a6 < 16 := by omega
        refine g_aload_n h 0 dX5_digest_12 rfl rfl ?_
        refine g_lload_n h 1 dX5_digest_13 rfl rfl ?_
        refine g_iload_n h 2 dX5_digest_14 rfl rfl ?_
        refine g_callV (As := [.long _, .int (nI a6)]) (C := RX5) h 2 (c_X5_addLine l E _ _ _ hV _ a6 (by omega)) rfl gX5_digest_X5_addLine rfl rfl rfl rfl (by decide +kernel) ⟨Nat.le_of_ble_eq_true rfl, Nat.le_of_ble_eq_true rfl⟩ (wat_D E _) rfl rfl dX5_digest_15 ⟨by dsimp only; omega, by dsimp only; omega⟩ (Nat.le_of_ble_eq_true rfl) ?_
        rintro _ _ ⟨rfl, hy⟩
        obtain rfl := hy.symm
        dsimp only [Option.toList, List.cons_append, List.nil_append]
        refine g_lstore_n (lv' := [(0, _), (1, _), (3, _)]) h [1, 0, 2] dX5_digest_18 rfl (by decide) rfl ?_
        refine g_iinc (lv' := [(0, _), (1, _), (3, .int (nI (a6 + 1)))]) h 2 [1, 2, 0] dX5_digest_19 rfl (nI_add _ 1) (by decide) rfl ?_
        refine g_goto h 6 dX5_digest_22 (by decide) ?_
        have hb6 : lp_X5_digest_6 v ((47 : Int64)) (a6 + 1) = r_X5_addLine v ((lp_X5_digest_6 v ((47 : Int64)) a6)) a6 := rfl
        refine g_lvs (lv' := [(0, .ref (aD E)), (1, .long ((lp_X5_digest_6 v ((47 : Int64)) (a6 + 1)))), (3, .int (nI (a6 + 1)))]) (by rw [hb6]) ?_
        exact ih6 (a6 + 1) (by omega) (by omega)
  exact loop6 (16 + 1) 0 (by omega) (by omega)
def r_X0_holds_x (x : St) (i : Nat) (j : Nat) : Nat :=
  if (x.AC i 0 j) = 0 then
    0
  else
    1
set_option maxRecDepth 100000 in
set_option maxHeartbeats 400000 in
theorem c_X0_holds_x (l : Launch) (E : gE) (x : St) (i : Nat) (j : Nat) (hi : i < 4) (hj : j < 16) : Ct l yX0_holds wsX0_holds { frames := 0, cells := 0, slots := 0, locals := 0 } E [.ref (aC E i), .int (nI j)] x (fun v y => v = some (.int (nI (r_X0_holds_x x i j))) ∧ y = x) 0 0 := by
  refine Ct.of (cc := cX0_holds) (nL := 2) (ret := (some .boolean)) (by decide) rfl (Nat.le_of_ble_eq_true rfl) ?_
  intro p e s m args below meth c h hr hk hname
  refine g_lvs (lv' := [(0, _), (1, _)]) rfl ?_
  refine g_aload_n h 0 dX0_holds_0 rfl rfl ?_
  refine g_get (C := RX0) (T := TX0) (N := 14) h 3 (wat_C E _ (by omega)) rfl in_X0_holds_X0 (by decide) lk_X0_holds_18 rfl rfl dX0_holds_1 ?_
  refine g_iload_n h 1 dX0_holds_4 rfl rfl ?_
  refine g_iald (n := 16) h (wat_A16 E _ (by omega) (by decide)) (by omega) (by decide) dX0_holds_5 ?_
  refine g_if_eq h 13 dX0_holds_6 (by decide) (fun c_6 => ?_) (fun c_6 => ?_)
  · skip
    refine g_iconst (v := nI 0) h dX0_holds_13 (by decide) ?_
    exact g_zret h hr hk (by decide) dX0_holds_14 (by omega) (by omega) ⟨congrArg (fun z => some (Value.int (nI z))) (Eq.symm (if_pos c_6)), rfl⟩
  · skip
    refine g_iconst (v := nI 1) h dX0_holds_9 (by decide) ?_
    refine g_goto h 14 dX0_holds_10 (by decide) ?_
    exact g_zret h hr hk (by decide) dX0_holds_14 (by omega) (by omega) ⟨congrArg (fun z => some (Value.int (nI z))) (Eq.symm (if_neg c_6)), rfl⟩
theorem in_X5_isInOrder_X0 : ∀ w ∈ wsX00, w ∈ wsX5_isInOrder := by decide +kernel
theorem in_X5_isInOrder_X5 : ∀ w ∈ wsX50, w ∈ wsX5_isInOrder := by decide +kernel
theorem lk_X5_isInOrder_18 : Cond.fieldLink RX5 18 "CacheDirectory" "caches" "[LCacheDirectory$Cache;" ∈ wsX5_isInOrder := by decide +kernel
theorem lk_X5_isInOrder_79 : Cond.fieldLink RX5 79 "CacheDirectory$Cache" "values" "[I" ∈ wsX5_isInOrder := by decide +kernel
theorem lk_X5_isInOrder_89 : Cond.fieldLink RX5 89 "CacheDirectory$Cache" "states" "[I" ∈ wsX5_isInOrder := by decide +kernel
def lq_X5_isInOrder_17 (x : St) (j : Nat) : Nat → Nat → Nat → Nat → Nat → Int32 → Nat
  | 0, a17, v2, v3, v4, v5 =>
    if 1 < v3 then
      0
    else
      if (nI v4) = 0 then
        1
      else
        if v2 = 1 then
          1
        else
          0

  | n17 + 1, a17, v2, v3, v4, v5 =>
    if (nI (r_X0_holds_x x a17 j)) = 0 then
      lq_X5_isInOrder_17 x j n17 (a17 + 1) v2 v3 v4 v5
    else
      if (nI v2) ≤ 0 then
        if (x.AC a17 0 j) = (nI 1) then
          if (x.AC a17 0 j) = (nI 3) then
            lq_X5_isInOrder_17 x j n17 (a17 + 1) (v2 + 1) (v3 + 0) (v4 + 1) (x.AC a17 1 j)
          else
            lq_X5_isInOrder_17 x j n17 (a17 + 1) (v2 + 1) (v3 + 0) (v4 + 0) (x.AC a17 1 j)
        else
          if (x.AC a17 0 j) = (nI 3) then
            lq_X5_isInOrder_17 x j n17 (a17 + 1) (v2 + 1) (v3 + 1) (v4 + 1) (x.AC a17 1 j)
          else
            lq_X5_isInOrder_17 x j n17 (a17 + 1) (v2 + 1) (v3 + 1) (v4 + 0) (x.AC a17 1 j)
      else
        if (x.AC a17 1 j) = v5 then
          if (x.AC a17 0 j) = (nI 1) then
            if (x.AC a17 0 j) = (nI 3) then
              lq_X5_isInOrder_17 x j n17 (a17 + 1) (v2 + 1) (v3 + 0) (v4 + 1) (x.AC a17 1 j)
            else
              lq_X5_isInOrder_17 x j n17 (a17 + 1) (v2 + 1) (v3 + 0) (v4 + 0) (x.AC a17 1 j)
          else
            if (x.AC a17 0 j) = (nI 3) then
              lq_X5_isInOrder_17 x j n17 (a17 + 1) (v2 + 1) (v3 + 1) (v4 + 1) (x.AC a17 1 j)
            else
              lq_X5_isInOrder_17 x j n17 (a17 + 1) (v2 + 1) (v3 + 1) (v4 + 0) (x.AC a17 1 j)
        else
          0
def r_X5_isInOrder (x : St) (j : Nat) : Nat :=
  lq_X5_isInOrder_17 x j 4 0 0 0 0 ((-1 : Int32))
set_option maxRecDepth 100000 in
set_option maxHeartbeats 400000 in
theorem c_X5_isInOrder (l : Launch) (E : gE) (x : St) (j : Nat) (hj : j < 16) : Ct l yX5_isInOrder wsX5_isInOrder { frames := 1, cells := 0, slots := 0, locals := 21 } E [.ref (aD E), .int (nI j)] x (fun v y => v = some (.int (nI (r_X5_isInOrder x j))) ∧ y = x) 0 0 := by
  refine Ct.of (cc := cX5_isInOrder) (nL := 8) (ret := (some .boolean)) (by decide) rfl (Nat.le_of_ble_eq_true rfl) ?_
  intro p e s m args below meth c h hr hk hname
  refine g_lvs (lv' := [(0, _), (1, _)]) rfl ?_
  refine g_iload_n h 1 dX5_isInOrder_0 rfl rfl ?_
  refine g_callS (As := [.int (nI j)]) h 1 (c_X5_checkLine l E _ j (by omega)) rfl gX5_isInOrder_X5_checkLine rfl rfl rfl rfl (by decide +kernel) ⟨Nat.le_of_ble_eq_true rfl, Nat.le_of_ble_eq_true rfl⟩ dX5_isInOrder_1 ⟨by dsimp only; omega, by dsimp only; omega⟩ (Nat.le_of_ble_eq_true rfl) ?_
  rintro _ _ ⟨rfl, hy⟩
  obtain rfl := hy.symm
  dsimp only [Option.toList, List.cons_append, List.nil_append]
  refine g_iconst (v := nI 0) h dX5_isInOrder_4 (by decide) ?_
  refine g_istore_n (lv' := [(0, _), (1, _), (2, _)]) h [1, 2, 0] dX5_isInOrder_5 rfl (by decide) rfl ?_
  refine g_iconst (v := nI 0) h dX5_isInOrder_6 (by decide) ?_
  refine g_istore_n (lv' := [(0, _), (1, _), (2, _), (3, _)]) h [1, 2, 3, 0] dX5_isInOrder_7 rfl (by decide) rfl ?_
  refine g_iconst (v := nI 0) h dX5_isInOrder_8 (by decide) ?_
  refine g_istore (lv' := [(0, _), (1, _), (2, _), (3, _), (4, _)]) h [1, 2, 3, 4, 0] dX5_isInOrder_9 (by decide) rfl ?_
  refine g_iconst (v := -1) h dX5_isInOrder_11 (by decide) ?_
  refine g_istore (lv' := [(0, _), (1, _), (2, _), (3, _), (4, _), (5, _)]) h [1, 2, 3, 4, 5, 0] dX5_isInOrder_12 (by decide) rfl ?_
  refine g_iconst (v := nI 0) h dX5_isInOrder_14 (by decide) ?_
  refine g_istore (lv' := [(0, _), (1, _), (2, _), (3, _), (4, _), (5, _), (6, _)]) h [1, 2, 3, 4, 5, 6, 0] dX5_isInOrder_15 (by decide) rfl ?_
  have loop17 : ∀ (k17 a17 n17 : Nat) (v2 : Nat) (v3 : Nat) (v4 : Nat) (v5 : Int32), n17 < k17 → a17 + n17 = 4 → lq_X5_isInOrder_17 x j n17 a17 v2 v3 v4 v5 = lq_X5_isInOrder_17 x j 4 0 0 0 0 ((-1 : Int32)) → v2 ≤ a17 ∧ v3 ≤ a17 ∧ v4 ≤ a17 → gG p l e ({ frames := 1, cells := 0, slots := 0, locals := 21 } : Room) s m args below meth c (gQ below E x s (fun v y => v = some (.int (nI (r_X5_isInOrder x j))) ∧ y = x) args 0 0) E x 8 0 0 x 17 [(0, .ref (aD E)), (1, .int (nI j)), (2, .int (nI v2)), (3, .int (nI v3)), (4, .int (nI v4)), (5, .int v5), (6, .int (nI a17))] [] := by
    intro k17
    induction k17 with
    | zero => intro a17 n17 v2 v3 v4 v5 hk17; exact absurd hk17 (by omega)
    | succ k17 ih17 =>
      intro a17 n17 v2 v3 v4 v5 hk17 ha17 hq17 hi17
      refine g_iload h 6 dX5_isInOrder_17 rfl ?_
      refine g_iconst (v := nI 4) h dX5_isInOrder_19 (by decide) ?_
      refine g_icmp_geN h 117 dX5_isInOrder_20 (by decide) (by omega) (by omega) (fun c_20 => ?_) (fun c_20 => ?_)
      · skip
        obtain rfl : n17 = 0 := by omega
        refine g_iload_n h 3 dX5_isInOrder_117 rfl rfl ?_
        refine g_iconst (v := nI 1) h dX5_isInOrder_118 (by decide) ?_
        refine g_icmp_gtN h 136 dX5_isInOrder_119 (by decide) (by omega) (by omega) (fun c_119 => ?_) (fun c_119 => ?_)
        · skip
          refine g_iconst (v := nI 0) h dX5_isInOrder_136 (by decide) ?_
          exact g_zret h hr hk (by decide) dX5_isInOrder_137 (by omega) (by omega) ⟨congrArg (fun z => some (Value.int (nI z))) (Eq.trans (Eq.trans (Eq.symm (if_pos c_119)) hq17) (Eq.symm rfl)), rfl⟩
        · skip
          refine g_iload h 4 dX5_isInOrder_122 rfl ?_
          refine g_if_eq h 132 dX5_isInOrder_124 (by decide) (fun c_124 => ?_) (fun c_124 => ?_)
          · skip
            refine g_iconst (v := nI 1) h dX5_isInOrder_132 (by decide) ?_
            refine g_goto h 137 dX5_isInOrder_133 (by decide) ?_
            exact g_zret h hr hk (by decide) dX5_isInOrder_137 (by omega) (by omega) ⟨congrArg (fun z => some (Value.int (nI z))) (Eq.trans (Eq.trans (Eq.symm (Eq.trans (if_neg c_119) (if_pos c_124))) hq17) (Eq.symm rfl)), rfl⟩
          · skip
            refine g_iload_n h 2 dX5_isInOrder_127 rfl rfl ?_
            refine g_iconst (v := nI 1) h dX5_isInOrder_128 (by decide) ?_
            refine g_icmp_neN h 136 dX5_isInOrder_129 (by decide) (by omega) (by omega) (fun c_129 => ?_) (fun c_129 => ?_)
            · skip
              refine g_iconst (v := nI 0) h dX5_isInOrder_136 (by decide) ?_
              exact g_zret h hr hk (by decide) dX5_isInOrder_137 (by omega) (by omega) ⟨congrArg (fun z => some (Value.int (nI z))) (Eq.trans (Eq.trans (Eq.symm (Eq.trans (if_neg c_119) (Eq.trans (if_neg c_124) (if_neg c_129)))) hq17) (Eq.symm rfl)), rfl⟩
            · skip
              refine g_iconst (v := nI 1) h dX5_isInOrder_132 (by decide) ?_
              refine g_goto h 137 dX5_isInOrder_133 (by decide) ?_
              exact g_zret h hr hk (by decide) dX5_isInOrder_137 (by omega) (by omega) ⟨congrArg (fun z => some (Value.int (nI z))) (Eq.trans (Eq.trans (Eq.symm (Eq.trans (if_neg c_119) (Eq.trans (if_neg c_124) (if_pos c_129)))) hq17) (Eq.symm rfl)), rfl⟩
      · skip
        obtain ⟨n17, rfl⟩ : ∃ q, n17 = q + 1 := ⟨n17 - 1, by omega⟩
        refine g_aload_n h 0 dX5_isInOrder_23 rfl rfl ?_
        refine g_get (C := RX5) (T := TX5) (N := 3) h 1 (wat_D E _) rfl in_X5_isInOrder_X5 (by decide) lk_X5_isInOrder_18 rfl rfl dX5_isInOrder_24 ?_
        refine g_iload h 6 dX5_isInOrder_27 rfl ?_
        refine g_qald (t0 := 2) h (wat_Cs E _) rfl (by omega) (by decide) rfl dX5_isInOrder_29 ?_
        refine g_astore (lv' := [(0, _), (1, _), (2, _), (3, _), (4, _), (5, _), (6, _), (7, _)]) h [1, 2, 3, 4, 5, 6, 7, 0] dX5_isInOrder_30 (by decide) rfl ?_
        refine g_aload h 7 dX5_isInOrder_32 rfl ?_
        refine g_iload_n h 1 dX5_isInOrder_34 rfl rfl ?_
        refine g_callV (As := [.int (nI j)]) (C := RX0) h 1 (c_X0_holds_x l E _ a17 j (by omega) (by omega)) rfl gX5_isInOrder_X0_holds rfl rfl rfl rfl (by decide +kernel) ⟨Nat.le_of_ble_eq_true rfl, Nat.le_of_ble_eq_true rfl⟩ (wat_C E _ (by omega)) rfl rfl dX5_isInOrder_35 ⟨by dsimp only; omega, by dsimp only; omega⟩ (Nat.le_of_ble_eq_true rfl) ?_
        rintro _ _ ⟨rfl, hy⟩
        obtain rfl := hy.symm
        dsimp only [Option.toList, List.cons_append, List.nil_append]
        refine g_if_eq h 111 dX5_isInOrder_38 (by decide) (fun c_38 => ?_) (fun c_38 => ?_)
        · skip
          refine g_iinc (lv' := [(0, _), (1, _), (2, _), (3, _), (4, _), (5, _), (6, .int (nI (a17 + 1))), (7, _)]) h 6 [1, 2, 3, 4, 5, 6, 0, 7] dX5_isInOrder_111 rfl (nI_add _ 1) (by decide) rfl ?_
          refine g_goto h 17 dX5_isInOrder_114 (by decide) ?_
          refine g_lv (lv' := [(0, _), (1, _), (2, _), (3, _), (4, _), (5, _), (6, _)]) [0, 1, 2, 3, 4, 5, 6] rfl ?_
          exact ih17 (a17 + 1) n17 _ _ _ _ (by omega) (by omega) (Eq.trans (Eq.symm (if_pos c_38)) hq17) (by omega)
        · skip
          refine g_iload_n h 2 dX5_isInOrder_41 rfl rfl ?_
          refine g_if_le h 59 dX5_isInOrder_42 (by decide) (fun c_42 => ?_) (fun c_42 => ?_)
          · skip
            refine g_aload h 7 dX5_isInOrder_59 rfl ?_
            refine g_get (C := RX0) (T := TX0) (N := 14) h 4 (wat_C E _ (by omega)) rfl in_X5_isInOrder_X0 (by decide) lk_X5_isInOrder_79 rfl rfl dX5_isInOrder_61 ?_
            refine g_iload_n h 1 dX5_isInOrder_64 rfl rfl ?_
            refine g_iald (n := 16) h (wat_A16 E _ (by omega) (by decide)) (by omega) (by decide) dX5_isInOrder_65 ?_
            refine g_istore (lv' := [(0, _), (1, _), (2, _), (3, _), (4, _), (5, _), (6, _), (7, _)]) h [1, 2, 3, 4, 5, 0, 6, 7] dX5_isInOrder_66 (by decide) rfl ?_
            refine g_iinc (lv' := [(0, _), (1, _), (2, .int (nI (v2 + 1))), (3, _), (4, _), (5, _), (6, _), (7, _)]) h 2 [1, 2, 0, 3, 4, 5, 6, 7] dX5_isInOrder_68 rfl (nI_add _ 1) (by decide) rfl ?_
            refine g_iload_n h 3 dX5_isInOrder_71 rfl rfl ?_
            refine g_aload h 7 dX5_isInOrder_72 rfl ?_
            refine g_get (C := RX0) (T := TX0) (N := 14) h 3 (wat_C E _ (by omega)) rfl in_X5_isInOrder_X0 (by decide) lk_X5_isInOrder_89 rfl rfl dX5_isInOrder_74 ?_
            refine g_iload_n h 1 dX5_isInOrder_77 rfl rfl ?_
            refine g_iald (n := 16) h (wat_A16 E _ (by omega) (by decide)) (by omega) (by decide) dX5_isInOrder_78 ?_
            refine g_iconst (v := nI 1) h dX5_isInOrder_79 (by decide) ?_
            refine g_icmp_ne h 87 dX5_isInOrder_80 (by decide) (fun c_80 => ?_) (fun c_80 => ?_)
            · skip
              refine g_iconst (v := nI 1) h dX5_isInOrder_87 (by decide) ?_
              refine g_iaddN h dX5_isInOrder_88 ?_
              refine g_istore_n (lv' := [(0, _), (1, _), (2, _), (3, _), (4, _), (5, _), (6, _), (7, _)]) h [1, 2, 3, 0, 4, 5, 6, 7] dX5_isInOrder_89 rfl (by decide) rfl ?_
              refine g_iload h 4 dX5_isInOrder_90 rfl ?_
              refine g_aload h 7 dX5_isInOrder_92 rfl ?_
              refine g_get (C := RX0) (T := TX0) (N := 14) h 3 (wat_C E _ (by omega)) rfl in_X5_isInOrder_X0 (by decide) lk_X5_isInOrder_89 rfl rfl dX5_isInOrder_94 ?_
              refine g_iload_n h 1 dX5_isInOrder_97 rfl rfl ?_
              refine g_iald (n := 16) h (wat_A16 E _ (by omega) (by decide)) (by omega) (by decide) dX5_isInOrder_98 ?_
              refine g_iconst (v := nI 3) h dX5_isInOrder_99 (by decide) ?_
              refine g_icmp_ne h 107 dX5_isInOrder_100 (by decide) (fun c_100 => ?_) (fun c_100 => ?_)
              · skip
                refine g_iconst (v := nI 0) h dX5_isInOrder_107 (by decide) ?_
                refine g_iaddN h dX5_isInOrder_108 ?_
                refine g_istore (lv' := [(0, _), (1, _), (2, _), (3, _), (4, _), (5, _), (6, _), (7, _)]) h [1, 2, 3, 4, 0, 5, 6, 7] dX5_isInOrder_109 (by decide) rfl ?_
                refine g_iinc (lv' := [(0, _), (1, _), (2, _), (3, _), (4, _), (5, _), (6, .int (nI (a17 + 1))), (7, _)]) h 6 [1, 2, 3, 4, 5, 6, 0, 7] dX5_isInOrder_111 rfl (nI_add _ 1) (by decide) rfl ?_
                refine g_goto h 17 dX5_isInOrder_114 (by decide) ?_
                refine g_lv (lv' := [(0, _), (1, _), (2, _), (3, _), (4, _), (5, _), (6, _)]) [0, 1, 2, 3, 4, 5, 6] rfl ?_
                exact ih17 (a17 + 1) n17 _ _ _ _ (by omega) (by omega) (Eq.trans (Eq.symm (Eq.trans (if_neg c_38) (Eq.trans (if_pos c_42) (Eq.trans (if_neg c_80) (if_neg c_100))))) hq17) (by omega)
              · skip
                refine g_iconst (v := nI 1) h dX5_isInOrder_103 (by decide) ?_
                refine g_goto h 108 dX5_isInOrder_104 (by decide) ?_
                refine g_iaddN h dX5_isInOrder_108 ?_
                refine g_istore (lv' := [(0, _), (1, _), (2, _), (3, _), (4, _), (5, _), (6, _), (7, _)]) h [1, 2, 3, 4, 0, 5, 6, 7] dX5_isInOrder_109 (by decide) rfl ?_
                refine g_iinc (lv' := [(0, _), (1, _), (2, _), (3, _), (4, _), (5, _), (6, .int (nI (a17 + 1))), (7, _)]) h 6 [1, 2, 3, 4, 5, 6, 0, 7] dX5_isInOrder_111 rfl (nI_add _ 1) (by decide) rfl ?_
                refine g_goto h 17 dX5_isInOrder_114 (by decide) ?_
                refine g_lv (lv' := [(0, _), (1, _), (2, _), (3, _), (4, _), (5, _), (6, _)]) [0, 1, 2, 3, 4, 5, 6] rfl ?_
                exact ih17 (a17 + 1) n17 _ _ _ _ (by omega) (by omega) (Eq.trans (Eq.symm (Eq.trans (if_neg c_38) (Eq.trans (if_pos c_42) (Eq.trans (if_neg c_80) (if_pos c_100))))) hq17) (by omega)
            · skip
              refine g_iconst (v := nI 0) h dX5_isInOrder_83 (by decide) ?_
              refine g_goto h 88 dX5_isInOrder_84 (by decide) ?_
              refine g_iaddN h dX5_isInOrder_88 ?_
              refine g_istore_n (lv' := [(0, _), (1, _), (2, _), (3, _), (4, _), (5, _), (6, _), (7, _)]) h [1, 2, 3, 0, 4, 5, 6, 7] dX5_isInOrder_89 rfl (by decide) rfl ?_
              refine g_iload h 4 dX5_isInOrder_90 rfl ?_
              refine g_aload h 7 dX5_isInOrder_92 rfl ?_
              refine g_get (C := RX0) (T := TX0) (N := 14) h 3 (wat_C E _ (by omega)) rfl in_X5_isInOrder_X0 (by decide) lk_X5_isInOrder_89 rfl rfl dX5_isInOrder_94 ?_
              refine g_iload_n h 1 dX5_isInOrder_97 rfl rfl ?_
              refine g_iald (n := 16) h (wat_A16 E _ (by omega) (by decide)) (by omega) (by decide) dX5_isInOrder_98 ?_
              refine g_iconst (v := nI 3) h dX5_isInOrder_99 (by decide) ?_
              refine g_icmp_ne h 107 dX5_isInOrder_100 (by decide) (fun c_100 => ?_) (fun c_100 => ?_)
              · skip
                refine g_iconst (v := nI 0) h dX5_isInOrder_107 (by decide) ?_
                refine g_iaddN h dX5_isInOrder_108 ?_
                refine g_istore (lv' := [(0, _), (1, _), (2, _), (3, _), (4, _), (5, _), (6, _), (7, _)]) h [1, 2, 3, 4, 0, 5, 6, 7] dX5_isInOrder_109 (by decide) rfl ?_
                refine g_iinc (lv' := [(0, _), (1, _), (2, _), (3, _), (4, _), (5, _), (6, .int (nI (a17 + 1))), (7, _)]) h 6 [1, 2, 3, 4, 5, 6, 0, 7] dX5_isInOrder_111 rfl (nI_add _ 1) (by decide) rfl ?_
                refine g_goto h 17 dX5_isInOrder_114 (by decide) ?_
                refine g_lv (lv' := [(0, _), (1, _), (2, _), (3, _), (4, _), (5, _), (6, _)]) [0, 1, 2, 3, 4, 5, 6] rfl ?_
                exact ih17 (a17 + 1) n17 _ _ _ _ (by omega) (by omega) (Eq.trans (Eq.symm (Eq.trans (if_neg c_38) (Eq.trans (if_pos c_42) (Eq.trans (if_pos c_80) (if_neg c_100))))) hq17) (by omega)
              · skip
                refine g_iconst (v := nI 1) h dX5_isInOrder_103 (by decide) ?_
                refine g_goto h 108 dX5_isInOrder_104 (by decide) ?_
                refine g_iaddN h dX5_isInOrder_108 ?_
                refine g_istore (lv' := [(0, _), (1, _), (2, _), (3, _), (4, _), (5, _), (6, _), (7, _)]) h [1, 2, 3, 4, 0, 5, 6, 7] dX5_isInOrder_109 (by decide) rfl ?_
                refine g_iinc (lv' := [(0, _), (1, _), (2, _), (3, _), (4, _), (5, _), (6, .int (nI (a17 + 1))), (7, _)]) h 6 [1, 2, 3, 4, 5, 6, 0, 7] dX5_isInOrder_111 rfl (nI_add _ 1) (by decide) rfl ?_
                refine g_goto h 17 dX5_isInOrder_114 (by decide) ?_
                refine g_lv (lv' := [(0, _), (1, _), (2, _), (3, _), (4, _), (5, _), (6, _)]) [0, 1, 2, 3, 4, 5, 6] rfl ?_
                exact ih17 (a17 + 1) n17 _ _ _ _ (by omega) (by omega) (Eq.trans (Eq.symm (Eq.trans (if_neg c_38) (Eq.trans (if_pos c_42) (Eq.trans (if_pos c_80) (if_pos c_100))))) hq17) (by omega)
          · skip
            refine g_aload h 7 dX5_isInOrder_45 rfl ?_
            refine g_get (C := RX0) (T := TX0) (N := 14) h 4 (wat_C E _ (by omega)) rfl in_X5_isInOrder_X0 (by decide) lk_X5_isInOrder_79 rfl rfl dX5_isInOrder_47 ?_
            refine g_iload_n h 1 dX5_isInOrder_50 rfl rfl ?_
            refine g_iald (n := 16) h (wat_A16 E _ (by omega) (by decide)) (by omega) (by decide) dX5_isInOrder_51 ?_
            refine g_iload h 5 dX5_isInOrder_52 rfl ?_
            refine g_icmp_eq h 59 dX5_isInOrder_54 (by decide) (fun c_54 => ?_) (fun c_54 => ?_)
            · skip
              refine g_aload h 7 dX5_isInOrder_59 rfl ?_
              refine g_get (C := RX0) (T := TX0) (N := 14) h 4 (wat_C E _ (by omega)) rfl in_X5_isInOrder_X0 (by decide) lk_X5_isInOrder_79 rfl rfl dX5_isInOrder_61 ?_
              refine g_iload_n h 1 dX5_isInOrder_64 rfl rfl ?_
              refine g_iald (n := 16) h (wat_A16 E _ (by omega) (by decide)) (by omega) (by decide) dX5_isInOrder_65 ?_
              refine g_istore (lv' := [(0, _), (1, _), (2, _), (3, _), (4, _), (5, _), (6, _), (7, _)]) h [1, 2, 3, 4, 5, 0, 6, 7] dX5_isInOrder_66 (by decide) rfl ?_
              refine g_iinc (lv' := [(0, _), (1, _), (2, .int (nI (v2 + 1))), (3, _), (4, _), (5, _), (6, _), (7, _)]) h 2 [1, 2, 0, 3, 4, 5, 6, 7] dX5_isInOrder_68 rfl (nI_add _ 1) (by decide) rfl ?_
              refine g_iload_n h 3 dX5_isInOrder_71 rfl rfl ?_
              refine g_aload h 7 dX5_isInOrder_72 rfl ?_
              refine g_get (C := RX0) (T := TX0) (N := 14) h 3 (wat_C E _ (by omega)) rfl in_X5_isInOrder_X0 (by decide) lk_X5_isInOrder_89 rfl rfl dX5_isInOrder_74 ?_
              refine g_iload_n h 1 dX5_isInOrder_77 rfl rfl ?_
              refine g_iald (n := 16) h (wat_A16 E _ (by omega) (by decide)) (by omega) (by decide) dX5_isInOrder_78 ?_
              refine g_iconst (v := nI 1) h dX5_isInOrder_79 (by decide) ?_
              refine g_icmp_ne h 87 dX5_isInOrder_80 (by decide) (fun c_80 => ?_) (fun c_80 => ?_)
              · skip
                refine g_iconst (v := nI 1) h dX5_isInOrder_87 (by decide) ?_
                refine g_iaddN h dX5_isInOrder_88 ?_
                refine g_istore_n (lv' := [(0, _), (1, _), (2, _), (3, _), (4, _), (5, _), (6, _), (7, _)]) h [1, 2, 3, 0, 4, 5, 6, 7] dX5_isInOrder_89 rfl (by decide) rfl ?_
                refine g_iload h 4 dX5_isInOrder_90 rfl ?_
                refine g_aload h 7 dX5_isInOrder_92 rfl ?_
                refine g_get (C := RX0) (T := TX0) (N := 14) h 3 (wat_C E _ (by omega)) rfl in_X5_isInOrder_X0 (by decide) lk_X5_isInOrder_89 rfl rfl dX5_isInOrder_94 ?_
                refine g_iload_n h 1 dX5_isInOrder_97 rfl rfl ?_
                refine g_iald (n := 16) h (wat_A16 E _ (by omega) (by decide)) (by omega) (by decide) dX5_isInOrder_98 ?_
                refine g_iconst (v := nI 3) h dX5_isInOrder_99 (by decide) ?_
                refine g_icmp_ne h 107 dX5_isInOrder_100 (by decide) (fun c_100 => ?_) (fun c_100 => ?_)
                · skip
                  refine g_iconst (v := nI 0) h dX5_isInOrder_107 (by decide) ?_
                  refine g_iaddN h dX5_isInOrder_108 ?_
                  refine g_istore (lv' := [(0, _), (1, _), (2, _), (3, _), (4, _), (5, _), (6, _), (7, _)]) h [1, 2, 3, 4, 0, 5, 6, 7] dX5_isInOrder_109 (by decide) rfl ?_
                  refine g_iinc (lv' := [(0, _), (1, _), (2, _), (3, _), (4, _), (5, _), (6, .int (nI (a17 + 1))), (7, _)]) h 6 [1, 2, 3, 4, 5, 6, 0, 7] dX5_isInOrder_111 rfl (nI_add _ 1) (by decide) rfl ?_
                  refine g_goto h 17 dX5_isInOrder_114 (by decide) ?_
                  refine g_lv (lv' := [(0, _), (1, _), (2, _), (3, _), (4, _), (5, _), (6, _)]) [0, 1, 2, 3, 4, 5, 6] rfl ?_
                  exact ih17 (a17 + 1) n17 _ _ _ _ (by omega) (by omega) (Eq.trans (Eq.symm (Eq.trans (if_neg c_38) (Eq.trans (if_neg c_42) (Eq.trans (if_pos c_54) (Eq.trans (if_neg c_80) (if_neg c_100)))))) hq17) (by omega)
                · skip
                  refine g_iconst (v := nI 1) h dX5_isInOrder_103 (by decide) ?_
                  refine g_goto h 108 dX5_isInOrder_104 (by decide) ?_
                  refine g_iaddN h dX5_isInOrder_108 ?_
                  refine g_istore (lv' := [(0, _), (1, _), (2, _), (3, _), (4, _), (5, _), (6, _), (7, _)]) h [1, 2, 3, 4, 0, 5, 6, 7] dX5_isInOrder_109 (by decide) rfl ?_
                  refine g_iinc (lv' := [(0, _), (1, _), (2, _), (3, _), (4, _), (5, _), (6, .int (nI (a17 + 1))), (7, _)]) h 6 [1, 2, 3, 4, 5, 6, 0, 7] dX5_isInOrder_111 rfl (nI_add _ 1) (by decide) rfl ?_
                  refine g_goto h 17 dX5_isInOrder_114 (by decide) ?_
                  refine g_lv (lv' := [(0, _), (1, _), (2, _), (3, _), (4, _), (5, _), (6, _)]) [0, 1, 2, 3, 4, 5, 6] rfl ?_
                  exact ih17 (a17 + 1) n17 _ _ _ _ (by omega) (by omega) (Eq.trans (Eq.symm (Eq.trans (if_neg c_38) (Eq.trans (if_neg c_42) (Eq.trans (if_pos c_54) (Eq.trans (if_neg c_80) (if_pos c_100)))))) hq17) (by omega)
              · skip
                refine g_iconst (v := nI 0) h dX5_isInOrder_83 (by decide) ?_
                refine g_goto h 88 dX5_isInOrder_84 (by decide) ?_
                refine g_iaddN h dX5_isInOrder_88 ?_
                refine g_istore_n (lv' := [(0, _), (1, _), (2, _), (3, _), (4, _), (5, _), (6, _), (7, _)]) h [1, 2, 3, 0, 4, 5, 6, 7] dX5_isInOrder_89 rfl (by decide) rfl ?_
                refine g_iload h 4 dX5_isInOrder_90 rfl ?_
                refine g_aload h 7 dX5_isInOrder_92 rfl ?_
                refine g_get (C := RX0) (T := TX0) (N := 14) h 3 (wat_C E _ (by omega)) rfl in_X5_isInOrder_X0 (by decide) lk_X5_isInOrder_89 rfl rfl dX5_isInOrder_94 ?_
                refine g_iload_n h 1 dX5_isInOrder_97 rfl rfl ?_
                refine g_iald (n := 16) h (wat_A16 E _ (by omega) (by decide)) (by omega) (by decide) dX5_isInOrder_98 ?_
                refine g_iconst (v := nI 3) h dX5_isInOrder_99 (by decide) ?_
                refine g_icmp_ne h 107 dX5_isInOrder_100 (by decide) (fun c_100 => ?_) (fun c_100 => ?_)
                · skip
                  refine g_iconst (v := nI 0) h dX5_isInOrder_107 (by decide) ?_
                  refine g_iaddN h dX5_isInOrder_108 ?_
                  refine g_istore (lv' := [(0, _), (1, _), (2, _), (3, _), (4, _), (5, _), (6, _), (7, _)]) h [1, 2, 3, 4, 0, 5, 6, 7] dX5_isInOrder_109 (by decide) rfl ?_
                  refine g_iinc (lv' := [(0, _), (1, _), (2, _), (3, _), (4, _), (5, _), (6, .int (nI (a17 + 1))), (7, _)]) h 6 [1, 2, 3, 4, 5, 6, 0, 7] dX5_isInOrder_111 rfl (nI_add _ 1) (by decide) rfl ?_
                  refine g_goto h 17 dX5_isInOrder_114 (by decide) ?_
                  refine g_lv (lv' := [(0, _), (1, _), (2, _), (3, _), (4, _), (5, _), (6, _)]) [0, 1, 2, 3, 4, 5, 6] rfl ?_
                  exact ih17 (a17 + 1) n17 _ _ _ _ (by omega) (by omega) (Eq.trans (Eq.symm (Eq.trans (if_neg c_38) (Eq.trans (if_neg c_42) (Eq.trans (if_pos c_54) (Eq.trans (if_pos c_80) (if_neg c_100)))))) hq17) (by omega)
                · skip
                  refine g_iconst (v := nI 1) h dX5_isInOrder_103 (by decide) ?_
                  refine g_goto h 108 dX5_isInOrder_104 (by decide) ?_
                  refine g_iaddN h dX5_isInOrder_108 ?_
                  refine g_istore (lv' := [(0, _), (1, _), (2, _), (3, _), (4, _), (5, _), (6, _), (7, _)]) h [1, 2, 3, 4, 0, 5, 6, 7] dX5_isInOrder_109 (by decide) rfl ?_
                  refine g_iinc (lv' := [(0, _), (1, _), (2, _), (3, _), (4, _), (5, _), (6, .int (nI (a17 + 1))), (7, _)]) h 6 [1, 2, 3, 4, 5, 6, 0, 7] dX5_isInOrder_111 rfl (nI_add _ 1) (by decide) rfl ?_
                  refine g_goto h 17 dX5_isInOrder_114 (by decide) ?_
                  refine g_lv (lv' := [(0, _), (1, _), (2, _), (3, _), (4, _), (5, _), (6, _)]) [0, 1, 2, 3, 4, 5, 6] rfl ?_
                  exact ih17 (a17 + 1) n17 _ _ _ _ (by omega) (by omega) (Eq.trans (Eq.symm (Eq.trans (if_neg c_38) (Eq.trans (if_neg c_42) (Eq.trans (if_pos c_54) (Eq.trans (if_pos c_80) (if_pos c_100)))))) hq17) (by omega)
            · skip
              refine g_iconst (v := nI 0) h dX5_isInOrder_57 (by decide) ?_
              exact g_zret h hr hk (by decide) dX5_isInOrder_58 (by omega) (by omega) ⟨congrArg (fun z => some (Value.int (nI z))) (Eq.trans (Eq.trans (Eq.symm (Eq.trans (if_neg c_38) (Eq.trans (if_neg c_42) (if_neg c_54)))) hq17) (Eq.symm rfl)), rfl⟩
  exact loop17 (4 + 1) 0 4 0 0 0 ((-1 : Int32)) (by omega) (by omega) rfl (by omega)
