def lp_X5_writebacks_4 (v : Vw)  (b4_0 : Int32) : Nat → Int32
  | 0 => b4_0
  | a4 + 1 =>
  ((lp_X5_writebacks_4 v b4_0 a4)) + (v.x.FH a4 7)
def r_X5_writebacks (v : Vw)  : Int32 :=
  (lp_X5_writebacks_4 v (nI 0) 16)
def lp_X5_lateWritebacks_4 (v : Vw)  (b4_0 : Int32) : Nat → Int32
  | 0 => b4_0
  | a4 + 1 =>
  ((lp_X5_lateWritebacks_4 v b4_0 a4)) + (v.x.FH a4 8)
def r_X5_lateWritebacks (v : Vw)  : Int32 :=
  (lp_X5_lateWritebacks_4 v (nI 0) 16)
def lp_X5_addLine_95 (v : Vw) (b : Int64) (j : Nat) (b95_0 : Int64) : Nat → Int64
  | 0 => b95_0
  | a95 + 1 =>
  (((((((lp_X5_addLine_95 v b j b95_0 a95)) * ((31 : Int64))) + ((v.x.AC a95 0 j).toInt64)) * ((31 : Int64))) + ((v.x.AC a95 1 j).toInt64)) * ((31 : Int64))) + ((v.x.AC a95 2 j).toInt64)
def r_X5_addLine (v : Vw) (b : Int64) (j : Nat) : Int64 :=
  if (v.x.FH j 6) = 0 then
    (lp_X5_addLine_95 v b j ((((((((((b * ((31 : Int64))) + ((v.x.FH j 3).toInt64)) * ((31 : Int64))) + ((v.x.FH j 4).toInt64)) * ((31 : Int64))) + ((v.x.FH j 5).toInt64)) * ((31 : Int64))) + ((nI 0).toInt64)) * ((31 : Int64))) + ((nI ((v.q j).length)).toInt64)) 4)
  else
    (lp_X5_addLine_95 v b j ((((((((((b * ((31 : Int64))) + ((v.x.FH j 3).toInt64)) * ((31 : Int64))) + ((v.x.FH j 4).toInt64)) * ((31 : Int64))) + ((v.x.FH j 5).toInt64)) * ((31 : Int64))) + ((nI 1).toInt64)) * ((31 : Int64))) + ((nI ((v.q j).length)).toInt64)) 4)
def lp_X5_digest_60 (v : Vw)  (b60_0 : Int64) : Nat → Int64
  | 0 => b60_0
  | a60 + 1 =>
  (((((((((lp_X5_digest_60 v b60_0 a60)) * ((31 : Int64))) + ((mat v 16 a60 0).toInt64)) * ((31 : Int64))) + ((mat v 16 a60 1).toInt64)) * ((31 : Int64))) + ((mat v 16 a60 2).toInt64)) * ((31 : Int64))) + ((mat v 16 a60 3).toInt64)
def lp_X5_digest_27 (v : Vw)  (b27_0 : Int64) : Nat → Int64
  | 0 => b27_0
  | a27 + 1 =>
  (((lp_X5_digest_27 v b27_0 a27)) * ((31 : Int64))) + ((v.x.FR a27 0).toInt64)
def lp_X5_digest_6 (v : Vw)  (b6_0 : Int64) : Nat → Int64
  | 0 => b6_0
  | a6 + 1 =>
  r_X5_addLine v ((lp_X5_digest_6 v b6_0 a6)) a6
def r_X5_digest (v : Vw)  : Int64 :=
  (lp_X5_digest_60 v ((lp_X5_digest_27 v ((lp_X5_digest_6 v ((47 : Int64)) 16)) 4)) ((v.q 16).length))
def r_X0_holds_x (x : St) (i : Nat) (j : Nat) : Nat :=
  if (x.AC i 0 j) = 0 then
    0
  else
    1
set_option maxRecDepth 100000 in
set_option maxHeartbeats 400000 in
theorem c_X0_holds_x (l : Launch) (E : gE) (x : St) (i : Nat) (j : Nat) (hi : i < 4) (hj : j < 16) : Ct l yX0_holds wsX0_holds { frames := 0, cells := 0, slots := 0, locals := 0 } E [.ref (aC E i), .int (nI j)] x (fun v y => v = some (.int (nI (r_X0_holds_x x i j))) ∧ y = x) 0 0 := by
  refine Ct.of (cc := cX0_holds) (nL := 2) (ret := (some .boolean)) (by decide) rfl (Nat.le_of_ble_eq_true rfl) ?_
  intro p e s m args below meth c h hr hk hname
  refine g_lvs (lv' := [(0, _), (1, _)]) rfl ?_
  refine g_aload_n h 0 dX0_holds_0 rfl rfl ?_
  refine g_get (C := RX0) (T := TX0) (N := 14) h 3 (wat_C E _ (by omega)) rfl in_X0_holds_X0 (by decide) lk_X0_holds_18 rfl rfl dX0_holds_1 ?_
  refine g_iload_n h 1 dX0_holds_4 rfl rfl ?_
  refine g_iald (n := 16) h (wat_A16 E _ (by omega) (by decide)) (by omega) (by decide) dX0_holds_5 ?_
  refine g_if_eq h 13 dX0_holds_6 (by decide) (fun c_6 => ?_) (fun c_6 => ?_)
  · skip
    refine g_iconst (v := nI 0) h dX0_holds_13 (by decide) ?_
    exact g_zret h hr hk (by decide) dX0_holds_14 (by omega) (by omega) ⟨congrArg (fun z => some (Value.int (nI z))) (Eq.symm (if_pos c_6)), rfl⟩
  · skip
    refine g_iconst (v := nI 1) h dX0_holds_9 (by decide) ?_
    refine g_goto h 14 dX0_holds_10 (by decide) ?_
    exact g_zret h hr hk (by decide) dX0_holds_14 (by omega) (by omega) ⟨congrArg (fun z => some (Value.int (nI z))) (Eq.symm (if_neg c_6)), rfl⟩
theorem in_X5_isInOrder_X0 : ∀ w ∈ wsX00, w ∈ wsX5_isInOrder := by decide +kernel
theorem in_X5_isInOrder_X5 : ∀ w ∈ wsX50, w ∈ wsX5_isInOrder := by decide +kernel
theorem lk_X5_isInOrder_18 : Cond.fieldLink RX5 18 "CacheDirectory" "caches" "[LCacheDirectory$Cache;" ∈ wsX5_isInOrder := by decide +kernel
theorem lk_X5_isInOrder_79 : Cond.fieldLink RX5 79 "CacheDirectory$Cache" "values" "[I" ∈ wsX5_isInOrder := by decide +kernel
theorem lk_X5_isInOrder_89 : Cond.fieldLink RX5 89 "CacheDirectory$Cache" "states" "[I" ∈ wsX5_isInOrder := by decide +kernel
def lq_X5_isInOrder_17 (x : St) (j : Nat) : Nat → Nat → Nat → Nat → Nat → Int32 → Nat
  | 0, a17, v2, v3, v4, v5 =>
    if 1 < v3 then
      0
    else
      if (nI v4) = 0 then
        1
      else
        if v2 = 1 then
          1
        else
          0

  | n17 + 1, a17, v2, v3, v4, v5 =>
    if (nI (r_X0_holds_x x a17 j)) = 0 then
      lq_X5_isInOrder_17 x j n17 (a17 + 1) v2 v3 v4 v5
    else
      if (nI v2) ≤ 0 then
        if (x.AC a17 0 j) = (nI 1) then
          if (x.AC a17 0 j) = (nI 3) then
            lq_X5_isInOrder_17 x j n17 (a17 + 1) (v2 + 1) (v3 + 0) (v4 + 1) (x.AC a17 1 j)
          else
            lq_X5_isInOrder_17 x j n17 (a17 + 1) (v2 + 1) (v3 + 0) (v4 + 0) (x.AC a17 1 j)
        else
          if (x.AC a17 0 j) = (nI 3) then
            lq_X5_isInOrder_17 x j n17 (a17 + 1) (v2 + 1) (v3 + 1) (v4 + 1) (x.AC a17 1 j)
          else
            lq_X5_isInOrder_17 x j n17 (a17 + 1) (v2 + 1) (v3 + 1) (v4 + 0) (x.AC a17 1 j)
      else
        if (x.AC a17 1 j) = v5 then
          if (x.AC a17 0 j) = (nI 1) then
            if (x.AC a17 0 j) = (nI 3) then
              lq_X5_isInOrder_17 x j n17 (a17 + 1) (v2 + 1) (v3 + 0) (v4 + 1) (x.AC a17 1 j)
            else
              lq_X5_isInOrder_17 x j n17 (a17 + 1) (v2 + 1) (v3 + 0) (v4 + 0) (x.AC a17 1 j)
          else
            if (x.AC a17 0 j) = (nI 3) then
              lq_X5_isInOrder_17 x j n17 (a17 + 1) (v2 + 1) (v3 + 1) (v4 + 1) (x.AC a17 1 j)
            else
              lq_X5_isInOrder_17 x j n17 (a17 + 1) (v2 + 1) (v3 + 1) (v4 + 0) (x.AC a17 1 j)
        else
          0
def r_X5_isInOrder (x : St) (j : Nat) : Nat :=
  lq_X5_isInOrder_17 x j 4 0 0 0 0 ((-1 : Int32))
set_option maxRecDepth 100000 in
set_option maxHeartbeats 400000 in
theorem c_X5_isInOrder (l : Launch) (E : gE) (x : St) (j : Nat) (hj : j < 16) : Ct l yX5_isInOrder wsX5_isInOrder { frames := 1, cells := 0, slots := 0, locals := 21 } E [.ref (aD E), .int (nI j)] x (fun v y => v = some (.int (nI (r_X5_isInOrder x j))) ∧ y = x) 0 0 := by
  refine Ct.of (cc := cX5_isInOrder) (nL := 8) (ret := (some .boolean)) (by decide) rfl (Nat.le_of_ble_eq_true rfl) ?_
  intro p e s m args below meth c h hr hk hname
  refine g_lvs (lv' := [(0, _), (1, _)]) rfl ?_
  refine g_iload_n h 1 dX5_isInOrder_0 rfl rfl ?_
  refine g_callS (As := [.int (nI j)]) h 1 (c_X5_checkLine l E _ j (by omega)) rfl gX5_isInOrder_X5_checkLine rfl rfl rfl rfl (by decide +kernel) ⟨Nat.le_of_ble_eq_true rfl, Nat.le_of_ble_eq_true rfl⟩ dX5_isInOrder_1 ⟨by dsimp only; omega, by dsimp only; omega⟩ (Nat.le_of_ble_eq_true rfl) ?_
  rintro _ _ ⟨rfl, hy⟩
  obtain rfl := hy.symm
  dsimp only [Option.toList, List.cons_append, List.nil_append]
  refine g_iconst (v := nI 0) h dX5_isInOrder_4 (by decide) ?_
  refine g_istore_n (lv' := [(0, _), (1, _), (2, _)]) h [1, 2, 0] dX5_isInOrder_5 rfl (by decide) rfl ?_
  refine g_iconst (v := nI 0) h dX5_isInOrder_6 (by decide) ?_
  refine g_istore_n (lv' := [(0, _), (1, _), (2, _), (3, _)]) h [1, 2, 3, 0] dX5_isInOrder_7 rfl (by decide) rfl ?_
  refine g_iconst (v := nI 0) h dX5_isInOrder_8 (by decide) ?_
  refine g_istore (lv' := [(0, _), (1, _), (2, _), (3, _), (4, _)]) h [1, 2, 3, 4, 0] dX5_isInOrder_9 (by decide) rfl ?_
  refine g_iconst (v := -1) h dX5_isInOrder_11 (by decide) ?_
  refine g_istore (lv' := [(0, _), (1, _), (2, _), (3, _), (4, _), (5, _)]) h [1, 2, 3, 4, 5, 0] dX5_isInOrder_12 (by decide) rfl ?_
  refine g_iconst (v := nI 0) h dX5_isInOrder_14 (by decide) ?_
  refine g_istore (lv' := [(0, _), (1, _), (2, _), (3, _), (4, _), (5, _), (6, _)]) h [1, 2, 3, 4, 5, 6, 0] dX5_isInOrder_15 (by decide) rfl ?_
  have loop17 : ∀ (k17 a17 n17 : Nat) (v2 : Nat) (v3 : Nat) (v4 : Nat) (v5 : Int32), n17 < k17 → a17 + n17 = 4 → lq_X5_isInOrder_17 x j n17 a17 v2 v3 v4 v5 = lq_X5_isInOrder_17 x j 4 0 0 0 0 ((-1 : Int32)) → v2 ≤ a17 ∧ v3 ≤ a17 ∧ v4 ≤ a17 → gG p l e ({ frames := 1, cells := 0, slots := 0, locals := 21 } : Room) s m args below meth c (gQ below E x s (fun v y => v = some (.int (nI (r_X5_isInOrder x j))) ∧ y = x) args 0 0) E x 8 0 0 x 17 [(0, .ref (aD E)), (1, .int (nI j)), (2, .int (nI v2)), (3, .int (nI v3)), (4, .int (nI v4)), (5, .int v5), (6, .int (nI a17))] [] := by
    intro k17
    induction k17 with
    | zero => intro a17 n17 v2 v3 v4 v5 hk17; exact absurd hk17 (by omega)
    | succ k17 ih17 =>
      intro a17 n17 v2 v3 v4 v5 hk17 ha17 hq17 hi17
      refine g_iload h 6 dX5_isInOrder_17 rfl ?_
      refine g_iconst (v := nI 4) h dX5_isInOrder_19 (by decide) ?_
      refine g_icmp_geN h 117 dX5_isInOrder_20 (by decide) (by omega) (by omega) (fun c_20 => ?_) (fun c_20 => ?_)
      · skip
        obtain rfl : n17 = 0 := by omega
        refine g_iload_n h 3 dX5_isInOrder_117 rfl rfl ?_
        refine g_iconst (v := nI 1) h dX5_isInOrder_118 (by decide) ?_
        refine g_icmp_gtN h 136 dX5_isInOrder_119 (by decide) (by omega) (by omega) (fun c_119 => ?_) (fun c_119 => ?_)
        · skip
          refine g_iconst (v := nI 0) h dX5_isInOrder_136 (by decide) ?_
          exact g_zret h hr hk (by decide) dX5_isInOrder_137 (by omega) (by omega) ⟨congrArg (fun z => some (Value.int (nI z))) (Eq.trans (Eq.trans (Eq.symm (if_pos c_119)) hq17) (Eq.symm rfl)), rfl⟩
        · skip
          refine g_iload h 4 dX5_isInOrder_122 rfl ?_
          refine g_if_eq h 132 dX5_isInOrder_124 (by decide) (fun c_124 => ?_) (fun c_124 => ?_)
          · skip
            refine g_iconst (v := nI 1) h dX5_isInOrder_132 (by decide) ?_
            refine g_goto h 137 dX5_isInOrder_133 (by decide) ?_
            exact g_zret h hr hk (by decide) dX5_isInOrder_137 (by omega) (by omega) ⟨congrArg (fun z => some (Value.int (nI z))) (Eq.trans (Eq.trans (Eq.symm (Eq.trans (if_neg c_119) (if_pos c_124))) hq17) (Eq.symm rfl)), rfl⟩
          · skip
            refine g_iload_n h 2 dX5_isInOrder_127 rfl rfl ?_
            refine g_iconst (v := nI 1) h dX5_isInOrder_128 (by decide) ?_
            refine g_icmp_neN h 136 dX5_isInOrder_129 (by decide) (by omega) (by omega) (fun c_129 => ?_) (fun c_129 => ?_)
            · skip
              refine g_iconst (v := nI 0) h dX5_isInOrder_136 (by decide) ?_
              exact g_zret h hr hk (by decide) dX5_isInOrder_137 (by omega) (by omega) ⟨congrArg (fun z => some (Value.int (nI z))) (Eq.trans (Eq.trans (Eq.symm (Eq.trans (if_neg c_119) (Eq.trans (if_neg c_124) (if_neg c_129)))) hq17) (Eq.symm rfl)), rfl⟩
            · skip
              refine g_iconst (v := nI 1) h dX5_isInOrder_132 (by decide) ?_
              refine g_goto h 137 dX5_isInOrder_133 (by decide) ?_
              exact g_zret h hr hk (by decide) dX5_isInOrder_137 (by omega) (by omega) ⟨congrArg (fun z => some (Value.int (nI z))) (Eq.trans (Eq.trans (Eq.symm (Eq.trans (if_neg c_119) (Eq.trans (if_neg c_124) (if_pos c_129)))) hq17) (Eq.symm rfl)), rfl⟩
      · skip
        obtain ⟨n17, rfl⟩ : ∃ q, n17 = q + 1 := ⟨n17 - 1, by omega⟩
        refine g_aload_n h 0 dX5_isInOrder_23 rfl rfl ?_
        refine g_get (C := RX5) (T := TX5) (N := 3) h 1 (wat_D E _) rfl in_X5_isInOrder_X5 (by decide) lk_X5_isInOrder_18 rfl rfl dX5_isInOrder_24 ?_
        refine g_iload h 6 dX5_isInOrder_27 rfl ?_
        refine g_qald (t0 := 2) h (wat_Cs E _) rfl (by omega) (by decide) rfl dX5_isInOrder_29 ?_
        refine g_astore (lv' := [(0, _), (1, _), (2, _), (3, _), (4, _), (5, _), (6, _), (7, _)]) h [1, 2, 3, 4, 5, 6, 7, 0] dX5_isInOrder_30 (by decide) rfl ?_
        refine g_aload h 7 dX5_isInOrder_32 rfl ?_
        refine g_iload_n h 1 dX5_isInOrder_34 rfl rfl ?_
        refine g_callV (As := [.int (nI j)]) (C := RX0) h 1 (c_X0_holds_x l E _ a17 j (by omega) (by omega)) rfl gX5_isInOrder_X0_holds rfl rfl rfl rfl (by decide +kernel) ⟨Nat.le_of_ble_eq_true rfl, Nat.le_of_ble_eq_true rfl⟩ (wat_C E _ (by omega)) rfl rfl dX5_isInOrder_35 ⟨by dsimp only; omega, by dsimp only; omega⟩ (Nat.le_of_ble_eq_true rfl) ?_
        rintro _ _ ⟨rfl, hy⟩
        obtain rfl := hy.symm
        dsimp only [Option.toList, List.cons_append, List.nil_append]
        refine g_if_eq h 111 dX5_isInOrder_38 (by decide) (fun c_38 => ?_) (fun c_38 => ?_)
        · skip
          refine g_iinc (lv' := [(0, _), (1, _), (2, _), (3, _), (4, _), (5, _), (6, .int (nI (a17 + 1))), (7, _)]) h 6 [1, 2, 3, 4, 5, 6, 0, 7] dX5_isInOrder_111 rfl (nI_add _ 1) (by decide) rfl ?_
          refine g_goto h 17 dX5_isInOrder_114 (by decide) ?_
          refine g_lv (lv' := [(0, _), (1, _), (2, _), (3, _), (4, _), (5, _), (6, _)]) [0, 1, 2, 3, 4, 5, 6] rfl ?_
          exact ih17 (a17 + 1) n17 _ _ _ _ (by omega) (by omega) (Eq.trans (Eq.symm (if_pos c_38)) hq17) (by omega)
        · skip
          refine g_iload_n h 2 dX5_isInOrder_41 rfl rfl ?_
          refine g_if_le h 59 dX5_isInOrder_42 (by decide) (fun c_42 => ?_) (fun c_42 => ?_)
          · skip
            refine g_aload h 7 dX5_isInOrder_59 rfl ?_
            refine g_get (C := RX0) (T := TX0) (N := 14) h 4 (wat_C E _ (by omega)) rfl in_X5_isInOrder_X0 (by decide) lk_X5_isInOrder_79 rfl rfl dX5_isInOrder_61 ?_
            refine g_iload_n h 1 dX5_isInOrder_64 rfl rfl ?_
            refine g_iald (n := 16) h (wat_A16 E _ (by omega) (by decide)) (by omega) (by decide) dX5_isInOrder_65 ?_
            refine g_istore (lv' := [(0, _), (1, _), (2, _), (3, _), (4, _), (5, _), (6, _), (7, _)]) h [1, 2, 3, 4, 5, 0, 6, 7] dX5_isInOrder_66 (by decide) rfl ?_
            refine g_iinc (lv' := [(0, _), (1, _), (2, .int (nI (v2 + 1))), (3, _), (4, _), (5, _), (6, _), (7, _)]) h 2 [1, 2, 0, 3, 4, 5, 6, 7] dX5_isInOrder_68 rfl (nI_add _ 1) (by decide) rfl ?_
            refine g_iload_n h 3 dX5_isInOrder_71 rfl rfl ?_
            refine g_aload h 7 dX5_isInOrder_72 rfl ?_
            refine g_get (C := RX0) (T := TX0) (N := 14) h 3 (wat_C E _ (by omega)) rfl in_X5_isInOrder_X0 (by decide) lk_X5_isInOrder_89 rfl rfl dX5_isInOrder_74 ?_
            refine g_iload_n h 1 dX5_isInOrder_77 rfl rfl ?_
            refine g_iald (n := 16) h (wat_A16 E _ (by omega) (by decide)) (by omega) (by decide) dX5_isInOrder_78 ?_
            refine g_iconst (v := nI 1) h dX5_isInOrder_79 (by decide) ?_
            refine g_icmp_ne h 87 dX5_isInOrder_80 (by decide) (fun c_80 => ?_) (fun c_80 => ?_)
            · skip
              refine g_iconst (v := nI 1) h dX5_isInOrder_87 (by decide) ?_
              refine g_iaddN h dX5_isInOrder_88 ?_
              refine g_istore_n (lv' := [(0, _), (1, _), (2, _), (3, _), (4, _), (5, _), (6, _), (7, _)]) h [1, 2, 3, 0, 4, 5, 6, 7] dX5_isInOrder_89 rfl (by decide) rfl ?_
              refine g_iload h 4 dX5_isInOrder_90 rfl ?_
              refine g_aload h 7 dX5_isInOrder_92 rfl ?_
              refine g_get (C := RX0) (T := TX0) (N := 14) h 3 (wat_C E _ (by omega)) rfl in_X5_isInOrder_X0 (by decide) lk_X5_isInOrder_89 rfl rfl dX5_isInOrder_94 ?_
              refine g_iload_n h 1 dX5_isInOrder_97 rfl rfl ?_
              refine g_iald (n := 16) h (wat_A16 E _ (by omega) (by decide)) (by omega) (by decide) dX5_isInOrder_98 ?_
              refine g_iconst (v := nI 3) h dX5_isInOrder_99 (by decide) ?_
              refine g_icmp_ne h 107 dX5_isInOrder_100 (by decide) (fun c_100 => ?_) (fun c_100 => ?_)
              · skip
                refine g_iconst (v := nI 0) h dX5_isInOrder_107 (by decide) ?_
                refine g_iaddN h dX5_isInOrder_108 ?_
                refine g_istore (lv' := [(0, _), (1, _), (2, _), (3, _), (4, _), (5, _), (6, _), (7, _)]) h [1, 2, 3, 4, 0, 5, 6, 7] dX5_isInOrder_109 (by decide) rfl ?_
                refine g_iinc (lv' := [(0, _), (1, _), (2, _), (3, _), (4, _), (5, _), (6, .int (nI (a17 + 1))), (7, _)]) h 6 [1, 2, 3, 4, 5, 6, 0, 7] dX5_isInOrder_111 rfl (nI_add _ 1) (by decide) rfl ?_
                refine g_goto h 17 dX5_isInOrder_114 (by decide) ?_
                refine g_lv (lv' := [(0, _), (1, _), (2, _), (3, _), (4, _), (5, _), (6, _)]) [0, 1, 2, 3, 4, 5, 6] rfl ?_
                exact ih17 (a17 + 1) n17 _ _ _ _ (by omega) (by omega) (Eq.trans (Eq.symm (Eq.trans (if_neg c_38) (Eq.trans (if_pos c_42) (Eq.trans (if_neg c_80) (if_neg c_100))))) hq17) (by omega)
              · skip
                refine g_iconst (v := nI 1) h dX5_isInOrder_103 (by decide) ?_
                refine g_goto h 108 dX5_isInOrder_104 (by decide) ?_
                refine g_iaddN h dX5_isInOrder_108 ?_
                refine g_istore (lv' := [(0, _), (1, _), (2, _), (3, _), (4, _), (5, _), (6, _), (7, _)]) h [1, 2, 3, 4, 0, 5, 6, 7] dX5_isInOrder_109 (by decide) rfl ?_
                refine g_iinc (lv' := [(0, _), (1, _), (2, _), (3, _), (4, _), (5, _), (6, .int (nI (a17 + 1))), (7, _)]) h 6 [1, 2, 3, 4, 5, 6, 0, 7] dX5_isInOrder_111 rfl (nI_add _ 1) (by decide) rfl ?_
                refine g_goto h 17 dX5_isInOrder_114 (by decide) ?_
                refine g_lv (lv' := [(0, _), (1, _), (2, _), (3, _), (4, _), (5, _), (6, _)]) [0, 1, 2, 3, 4, 5, 6] rfl ?_
                exact ih17 (a17 + 1) n17 _ _ _ _ (by omega) (by omega) (Eq.trans (Eq.symm (Eq.trans (if_neg c_38) (Eq.trans (if_pos c_42) (Eq.trans (if_neg c_80) (if_pos c_100))))) hq17) (by omega)
            · skip
              refine g_iconst (v := nI 0) h dX5_isInOrder_83 (by decide) ?_
              refine g_goto h 88 dX5_isInOrder_84 (by decide) ?_
              refine g_iaddN h dX5_isInOrder_88 ?_
              refine g_istore_n (lv' := [(0, _), (1, _), (2, _), (3, _), (4, _), (5, _), (6, _), (7, _)]) h [1, 2, 3, 0, 4, 5, 6, 7] dX5_isInOrder_89 rfl (by decide) rfl ?_
              refine g_iload h 4 dX5_isInOrder_90 rfl ?_
              refine g_aload h 7 dX5_isInOrder_92 rfl ?_
              refine g_get (C := RX0) (T := TX0) (N := 14) h 3 (wat_C E _ (by omega)) rfl in_X5_isInOrder_X0 (by decide) lk_X5_isInOrder_89 rfl rfl dX5_isInOrder_94 ?_
              refine g_iload_n h 1 dX5_isInOrder_97 rfl rfl ?_
              refine g_iald (n := 16) h (wat_A16 E _ (by omega) (by decide)) (by omega) (by decide) dX5_isInOrder_98 ?_
              refine g_iconst (v := nI 3) h dX5_isInOrder_99 (by decide) ?_
              refine g_icmp_ne h 107 dX5_isInOrder_100 (by decide) (fun c_100 => ?_) (fun c_100 => ?_)
              · skip
                refine g_iconst (v := nI 0) h dX5_isInOrder_107 (by decide) ?_
                refine g_iaddN h dX5_isInOrder_108 ?_
                refine g_istore (lv' := [(0, _), (1, _), (2, _), (3, _), (4, _), (5, _), (6, _), (7, _)]) h [1, 2, 3, 4, 0, 5, 6, 7] dX5_isInOrder_109 (by decide) rfl ?_
                refine g_iinc (lv' := [(0, _), (1, _), (2, _), (3, _), (4, _), (5, _), (6, .int (nI (a17 + 1))), (7, _)]) h 6 [1, 2, 3, 4, 5, 6, 0, 7] dX5_isInOrder_111 rfl (nI_add _ 1) (by decide) rfl ?_
                refine g_goto h 17 dX5_isInOrder_114 (by decide) ?_
                refine g_lv (lv' := [(0, _), (1, _), (2, _), (3, _), (4, _), (5, _), (6, _)]) [0, 1, 2, 3, 4, 5, 6] rfl ?_
                exact ih17 (a17 + 1) n17 _ _ _ _ (by omega) (by omega) (Eq.trans (Eq.symm (Eq.trans (if_neg c_38) (Eq.trans (if_pos c_42) (Eq.trans (if_pos c_80) (if_neg c_100))))) hq17) (by omega)
              · skip
                refine g_iconst (v := nI 1) h dX5_isInOrder_103 (by decide) ?_
                refine g_goto h 108 dX5_isInOrder_104 (by decide) ?_
                refine g_iaddN h dX5_isInOrder_108 ?_
                refine g_istore (lv' := [(0, _), (1, _), (2, _), (3, _), (4, _), (5, _), (6, _), (7, _)]) h [1, 2, 3, 4, 0, 5, 6, 7] dX5_isInOrder_109 (by decide) rfl ?_
                refine g_iinc (lv' := [(0, _), (1, _), (2, _), (3, _), (4, _), (5, _), (6, .int (nI (a17 + 1))), (7, _)]) h 6 [1, 2, 3, 4, 5, 6, 0, 7] dX5_isInOrder_111 rfl (nI_add _ 1) (by decide) rfl ?_
                refine g_goto h 17 dX5_isInOrder_114 (by decide) ?_
                refine g_lv (lv' := [(0, _), (1, _), (2, _), (3, _), (4, _), (5, _), (6, _)]) [0, 1, 2, 3, 4, 5, 6] rfl ?_
                exact ih17 (a17 + 1) n17 _ _ _ _ (by omega) (by omega) (Eq.trans (Eq.symm (Eq.trans (if_neg c_38) (Eq.trans (if_pos c_42) (Eq.trans (if_pos c_80) (if_pos c_100))))) hq17) (by omega)
          · skip
            refine g_aload h 7 dX5_isInOrder_45 rfl ?_
            refine g_get (C := RX0) (T := TX0) (N := 14) h 4 (wat_C E _ (by omega)) rfl in_X5_isInOrder_X0 (by decide) lk_X5_isInOrder_79 rfl rfl dX5_isInOrder_47 ?_
            refine g_iload_n h 1 dX5_isInOrder_50 rfl rfl ?_
            refine g_iald (n := 16) h (wat_A16 E _ (by omega) (by decide)) (by omega) (by decide) dX5_isInOrder_51 ?_
            refine g_iload h 5 dX5_isInOrder_52 rfl ?_
            refine g_icmp_eq h 59 dX5_isInOrder_54 (by decide) (fun c_54 => ?_) (fun c_54 => ?_)
            · skip
              refine g_aload h 7 dX5_isInOrder_59 rfl ?_
              refine g_get (C := RX0) (T := TX0) (N := 14) h 4 (wat_C E _ (by omega)) rfl in_X5_isInOrder_X0 (by decide) lk_X5_isInOrder_79 rfl rfl dX5_isInOrder_61 ?_
              refine g_iload_n h 1 dX5_isInOrder_64 rfl rfl ?_
              refine g_iald (n := 16) h (wat_A16 E _ (by omega) (by decide)) (by omega) (by decide) dX5_isInOrder_65 ?_
              refine g_istore (lv' := [(0, _), (1, _), (2, _), (3, _), (4, _), (5, _), (6, _), (7, _)]) h [1, 2, 3, 4, 5, 0, 6, 7] dX5_isInOrder_66 (by decide) rfl ?_
              refine g_iinc (lv' := [(0, _), (1, _), (2, .int (nI (v2 + 1))), (3, _), (4, _), (5, _), (6, _), (7, _)]) h 2 [1, 2, 0, 3, 4, 5, 6, 7] dX5_isInOrder_68 rfl (nI_add _ 1) (by decide) rfl ?_
              refine g_iload_n h 3 dX5_isInOrder_71 rfl rfl ?_
              refine g_aload h 7 dX5_isInOrder_72 rfl ?_
              refine g_get (C := RX0) (T := TX0) (N := 14) h 3 (wat_C E _ (by omega)) rfl in_X5_isInOrder_X0 (by decide) lk_X5_isInOrder_89 rfl rfl dX5_isInOrder_74 ?_
              refine g_iload_n h 1 dX5_isInOrder_77 rfl rfl ?_
              refine g_iald (n := 16) h (wat_A16 E _ (by omega) (by decide)) (by omega) (by decide) dX5_isInOrder_78 ?_
              refine g_iconst (v := nI 1) h dX5_isInOrder_79 (by decide) ?_
              refine g_icmp_ne h 87 dX5_isInOrder_80 (by decide) (fun c_80 => ?_) (fun c_80 => ?_)
              · skip
                refine g_iconst (v := nI 1) h dX5_isInOrder_87 (by decide) ?_
                refine g_iaddN h dX5_isInOrder_88 ?_
                refine g_istore_n (lv' := [(0, _), (1, _), (2, _), (3, _), (4, _), (5, _), (6, _), (7, _)]) h [1, 2, 3, 0, 4, 5, 6, 7] dX5_isInOrder_89 rfl (by decide) rfl ?_
                refine g_iload h 4 dX5_isInOrder_90 rfl ?_
                refine g_aload h 7 dX5_isInOrder_92 rfl ?_
                refine g_get (C := RX0) (T := TX0) (N := 14) h 3 (wat_C E _ (by omega)) rfl in_X5_isInOrder_X0 (by decide) lk_X5_isInOrder_89 rfl rfl dX5_isInOrder_94 ?_
                refine g_iload_n h 1 dX5_isInOrder_97 rfl rfl ?_
                refine g_iald (n := 16) h (wat_A16 E _ (by omega) (by decide)) (by omega) (by decide) dX5_isInOrder_98 ?_
                refine g_iconst (v := nI 3) h dX5_isInOrder_99 (by decide) ?_
                refine g_icmp_ne h 107 dX5_isInOrder_100 (by decide) (fun c_100 => ?_) (fun c_100 => ?_)
                · skip
                  refine g_iconst (v := nI 0) h dX5_isInOrder_107 (by decide) ?_
                  refine g_iaddN h dX5_isInOrder_108 ?_
                  refine g_istore (lv' := [(0, _), (1, _), (2, _), (3, _), (4, _), (5, _), (6, _), (7, _)]) h [1, 2, 3, 4, 0, 5, 6, 7] dX5_isInOrder_109 (by decide) rfl ?_
                  refine g_iinc (lv' := [(0, _), (1, _), (2, _), (3, _), (4, _), (5, _), (6, .int (nI (a17 + 1))), (7, _)]) h 6 [1, 2, 3, 4, 5, 6, 0, 7] dX5_isInOrder_111 rfl (nI_add _ 1) (by decide) rfl ?_
                  refine g_goto h 17 dX5_isInOrder_114 (by decide) ?_
                  refine g_lv (lv' := [(0, _), (1, _), (2, _), (3, _), (4, _), (5, _), (6, _)]) [0, 1, 2, 3, 4, 5, 6] rfl ?_
                  exact ih17 (a17 + 1) n17 _ _ _ _ (by omega) (by omega) (Eq.trans (Eq.symm (Eq.trans (if_neg c_38) (Eq.trans (if_neg c_42) (Eq.trans (if_pos c_54) (Eq.trans (if_neg c_80) (if_neg c_100)))))) hq17) (by omega)
                · skip
                  refine g_iconst (v := nI 1) h dX5_isInOrder_103 (by decide) ?_
                  refine g_goto h 108 dX5_isInOrder_104 (by decide) ?_
                  refine g_iaddN h dX5_isInOrder_108 ?_
                  refine g_istore (lv' := [(0, _), (1, _), (2, _), (3, _), (4, _), (5, _), (6, _), (7, _)]) h [1, 2, 3, 4, 0, 5, 6, 7] dX5_isInOrder_109 (by decide) rfl ?_
                  refine g_iinc (lv' := [(0, _), (1, _), (2, _), (3, _), (4, _), (5, _), (6, .int (nI (a17 + 1))), (7, _)]) h 6 [1, 2, 3, 4, 5, 6, 0, 7] dX5_isInOrder_111 rfl (nI_add _ 1) (by decide) rfl ?_
                  refine g_goto h 17 dX5_isInOrder_114 (by decide) ?_
                  refine g_lv (lv' := [(0, _), (1, _), (2, _), (3, _), (4, _), (5, _), (6, _)]) [0, 1, 2, 3, 4, 5, 6] rfl ?_
                  exact ih17 (a17 + 1) n17 _ _ _ _ (by omega) (by omega) (Eq.trans (Eq.symm (Eq.trans (if_neg c_38) (Eq.trans (if_neg c_42) (Eq.trans (if_pos c_54) (Eq.trans (if_neg c_80) (if_pos c_100)))))) hq17) (by omega)
              · skip
                refine g_iconst (v := nI 0) h dX5_isInOrder_83 (by decide) ?_
                refine g_goto h 88 dX5_isInOrder_84 (by decide) ?_
                refine g_iaddN h dX5_isInOrder_88 ?_
                refine g_istore_n (lv' := [(0, _), (1, _), (2, _), (3, _), (4, _), (5, _), (6, _), (7, _)]) h [1, 2, 3, 0, 4, 5, 6, 7] dX5_isInOrder_89 rfl (by decide) rfl ?_
                refine g_iload h 4 dX5_isInOrder_90 rfl ?_
                refine g_aload h 7 dX5_isInOrder_92 rfl ?_
                refine g_get (C := RX0) (T := TX0) (N := 14) h 3 (wat_C E _ (by omega)) rfl in_X5_isInOrder_X0 (by decide) lk_X5_isInOrder_89 rfl rfl dX5_isInOrder_94 ?_
                refine g_iload_n h 1 dX5_isInOrder_97 rfl rfl ?_
                refine g_iald (n := 16) h (wat_A16 E _ (by omega) (by decide)) (by omega) (by decide) dX5_isInOrder_98 ?_
                refine g_iconst (v := nI 3) h dX5_isInOrder_99 (by decide) ?_
                refine g_icmp_ne h 107 dX5_isInOrder_100 (by decide) (fun c_100 => ?_) (fun c_100 => ?_)
                · skip
                  refine g_iconst (v := nI 0) h dX5_isInOrder_107 (by decide) ?_
                  refine g_iaddN h dX5_isInOrder_108 ?_
                  refine g_istore (lv' := [(0, _), (1, _), (2, _), (3, _), (4, _), (5, _), (6, _), (7, _)]) h [1, 2, 3, 4, 0, 5, 6, 7] dX5_isInOrder_109 (by decide) rfl ?_
                  refine g_iinc (lv' := [(0, _), (1, _), (2, _), (3, _), (4, _), (5, _), (6, .int (nI (a17 + 1))), (7, _)]) h 6 [1, 2, 3, 4, 5, 6, 0, 7] dX5_isInOrder_111 rfl (nI_add _ 1) (by decide) rfl ?_
                  refine g_goto h 17 dX5_isInOrder_114 (by decide) ?_
                  refine g_lv (lv' := [(0, _), (1, _), (2, _), (3, _), (4, _), (5, _), (6, _)]) [0, 1, 2, 3, 4, 5, 6] rfl ?_
                  exact ih17 (a17 + 1) n17 _ _ _ _ (by omega) (by omega) (Eq.trans (Eq.symm (Eq.trans (if_neg c_38) (Eq.trans (if_neg c_42) (Eq.trans (if_pos c_54) (Eq.trans (if_pos c_80) (if_neg c_100)))))) hq17) (by omega)
                · skip
                  refine g_iconst (v := nI 1) h dX5_isInOrder_103 (by decide) ?_
                  refine g_goto h 108 dX5_isInOrder_104 (by decide) ?_
                  refine g_iaddN h dX5_isInOrder_108 ?_
                  refine g_istore (lv' := [(0, _), (1, _), (2, _), (3, _), (4, _), (5, _), (6, _), (7, _)]) h [1, 2, 3, 4, 0, 5, 6, 7] dX5_isInOrder_109 (by decide) rfl ?_
                  refine g_iinc (lv' := [(0, _), (1, _), (2, _), (3, _), (4, _), (5, _), (6, .int (nI (a17 + 1))), (7, _)]) h 6 [1, 2, 3, 4, 5, 6, 0, 7] dX5_isInOrder_111 rfl (nI_add _ 1) (by decide) rfl ?_
                  refine g_goto h 17 dX5_isInOrder_114 (by decide) ?_
                  refine g_lv (lv' := [(0, _), (1, _), (2, _), (3, _), (4, _), (5, _), (6, _)]) [0, 1, 2, 3, 4, 5, 6] rfl ?_
                  exact ih17 (a17 + 1) n17 _ _ _ _ (by omega) (by omega) (Eq.trans (Eq.symm (Eq.trans (if_neg c_38) (Eq.trans (if_neg c_42) (Eq.trans (if_pos c_54) (Eq.trans (if_pos c_80) (if_pos c_100)))))) hq17) (by omega)
            · skip
              refine g_iconst (v := nI 0) h dX5_isInOrder_57 (by decide) ?_
              exact g_zret h hr hk (by decide) dX5_isInOrder_58 (by omega) (by omega) ⟨congrArg (fun z => some (Value.int (nI z))) (Eq.trans (Eq.trans (Eq.symm (Eq.trans (if_neg c_38) (Eq.trans (if_neg c_42) (if_neg c_54)))) hq17) (Eq.symm rfl)), rfl⟩
  exact loop17 (4 + 1) 0 4 0 0 0 ((-1 : Int32)) (by omega) (by omega) rfl (by omega)
