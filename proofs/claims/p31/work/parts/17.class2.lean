theorem in_X0_leaveUseOrder_X0 : ∀ w ∈ wsX00, w ∈ wsX0_leaveUseOrder := by decide +kernel
theorem lk_X0_leaveUseOrder_31 : Cond.fieldLink RX0 31 "CacheDirectory$Cache" "lineCount" "I" ∈ wsX0_leaveUseOrder := by decide +kernel
theorem lk_X0_leaveUseOrder_28 : Cond.fieldLink RX0 28 "CacheDirectory$Cache" "useOrder" "[I" ∈ wsX0_leaveUseOrder := by decide +kernel
def lp_X0_leaveUseOrder_4 (v : Vw) (i : Nat) (j : Nat) (b4_0 : Nat) (b4_1 : Vw) : Nat → Nat × Vw
  | 0 => (b4_0, b4_1)
  | a4 + 1 =>
  if (((lp_X0_leaveUseOrder_4 v i j b4_0 b4_1 a4).2).x.AC i 3 a4) = (nI j) then
    ((lp_X0_leaveUseOrder_4 v i j b4_0 b4_1 a4).1, (lp_X0_leaveUseOrder_4 v i j b4_0 b4_1 a4).2)
  else
    let x2 := vAC ((lp_X0_leaveUseOrder_4 v i j b4_0 b4_1 a4).2) i 3 (upd (((lp_X0_leaveUseOrder_4 v i j b4_0 b4_1 a4).2).x.AC i 3) ((lp_X0_leaveUseOrder_4 v i j b4_0 b4_1 a4).1) (((lp_X0_leaveUseOrder_4 v i j b4_0 b4_1 a4).2).x.AC i 3 a4))
    ((lp_X0_leaveUseOrder_4 v i j b4_0 b4_1 a4).1 + 1, x2)
theorem FC_lp_leave {v : Vw} {i j b0 : Nat} {b1 : Vw} : ∀ a, (lp_X0_leaveUseOrder_4 v i j b0 b1 a).2.x.FC = b1.x.FC := by
  intro a
  induction a with
  | zero => rfl
  | succ a ih =>
    unfold lp_X0_leaveUseOrder_4
    split
    · exact ih
    · exact ih
theorem le_lp_leave {v : Vw} {i j b0 : Nat} {b1 : Vw} : ∀ a, (lp_X0_leaveUseOrder_4 v i j b0 b1 a).1 ≤ b0 + a := by
  intro a
  induction a with
  | zero => exact Nat.le_refl _
  | succ a ih =>
    unfold lp_X0_leaveUseOrder_4
    split
    · exact Nat.le_succ_of_le ih
    · exact Nat.succ_le_succ ih
def s_X0_leaveUseOrder (v : Vw) (i : Nat) (j : Nat) : Vw :=
  let x1 := vFC ((lp_X0_leaveUseOrder_4 v i j 0 v (nat (v.x.FC i 7))).2) i 7 (nI ((lp_X0_leaveUseOrder_4 v i j 0 v (nat (v.x.FC i 7))).1))
  x1
set_option maxRecDepth 100000 in
set_option maxHeartbeats 400000 in
theorem c_X0_leaveUseOrder (l : Launch) (E : gE) (x : St) (v : Vw) (pn hs : List (Nat × M7)) (hV : VW x v pn hs) (i : Nat) (j : Nat) (hi : i < 4) (hj : j < 16) (hc : v.x.FC i 7 = nI (nat (v.x.FC i 7)) ∧ nat (v.x.FC i 7) ≤ 4) : Ct l yX0_leaveUseOrder wsX0_leaveUseOrder { frames := 0, cells := 0, slots := 0, locals := 0 } E [.ref (aC E i), .int (nI j)] x (fun u y => u = none ∧ VW y (s_X0_leaveUseOrder v i j) pn hs) 0 0 := by
  refine Ct.of (cc := cX0_leaveUseOrder) (nL := 4) (ret := none) (by decide) rfl (Nat.le_of_ble_eq_true rfl) ?_
  intro p e s m args below meth c h hr hk hname
  refine g_lvs (lv' := [(0, _), (1, _)]) rfl ?_
  have hc2 := hc.2
  refine g_iconst (v := nI 0) h dX0_leaveUseOrder_0 (by decide) ?_
  refine g_istore_n (lv' := [(0, _), (1, _), (2, _)]) h [1, 2, 0] dX0_leaveUseOrder_1 rfl (by decide) rfl ?_
  refine g_iconst (v := nI 0) h dX0_leaveUseOrder_2 (by decide) ?_
  refine g_istore_n (lv' := [(0, _), (1, _), (2, _), (3, _)]) h [1, 2, 3, 0] dX0_leaveUseOrder_3 rfl (by decide) rfl ?_
  have loop4 : ∀ (k4 a4 : Nat) (y : St), (nat (v.x.FC i 7)) - a4 < k4 → a4 ≤ nat (v.x.FC i 7) → VW y ((lp_X0_leaveUseOrder_4 v i j 0 v a4).2) pn hs → gG p l e ({ frames := 0, cells := 0, slots := 0, locals := 0 } : Room) s m args below meth c (gQ below E x s (fun u y => u = none ∧ VW y (s_X0_leaveUseOrder v i j) pn hs) args 0 0) E x 4 0 0 y 4 [(0, .ref (aC E i)), (1, .int (nI j)), (2, .int (nI ((lp_X0_leaveUseOrder_4 v i j 0 v a4).1))), (3, .int (nI a4))] [] := by
    intro k4
    induction k4 with
    | zero => intro a4 y hk4; exact absurd hk4 (by omega)
    | succ k4 ih4 =>
      intro a4 y hk4 ha4 hV
      refine g_iload_n h 3 dX0_leaveUseOrder_4 rfl rfl ?_
      refine g_aload_n h 0 dX0_leaveUseOrder_5 rfl rfl ?_
      refine g_get (C := RX0) (T := TX0) (N := 14) h 7 (wat_C E _ (by omega)) rfl in_X0_leaveUseOrder_X0 (by decide) lk_X0_leaveUseOrder_31 rfl rfl dX0_leaveUseOrder_6 ?_
      refine g_eqi (hV.FC _ _) ?_
      refine g_eqi ((congrFun (congrFun (FC_lp_leave _) i) 7).trans hc.1) ?_
      refine g_icmp_geN h 43 dX0_leaveUseOrder_9 (by decide) (by omega) (by omega) (fun c_9 => ?_) (fun c_9 => ?_)
      · skip
        obtain rfl : a4 = nat (v.x.FC i 7) := by omega
        refine g_aload_n h 0 dX0_leaveUseOrder_43 rfl rfl ?_
        refine g_iload_n h 2 dX0_leaveUseOrder_44 rfl rfl ?_
        refine g_put (C := RX0) (T := TX0) (N := 14) h 7 tyX0 (ws_C7 E _ (by omega) _) rfl in_X0_leaveUseOrder_X0 tyX0_ok nmX0 (by decide) lk_X0_leaveUseOrder_31 rfl rfl rfl rfl rfl (Nat.le_of_ble_eq_true rfl) dX0_leaveUseOrder_45 ?_
        refine g_gen hV.setFC (fun y hV => ?_)
        exact g_vret h hr hk dX0_leaveUseOrder_48 (Nat.zero_le _) (Nat.zero_le _) ⟨rfl, hV.cast (Eq.symm rfl)⟩
      · skip
        have hlt_9 : a4 < nat (v.x.FC i 7) := by omega
        refine g_aload_n h 0 dX0_leaveUseOrder_12 rfl rfl ?_
        refine g_get (C := RX0) (T := TX0) (N := 14) h 6 (wat_C E _ (by omega)) rfl in_X0_leaveUseOrder_X0 (by decide) lk_X0_leaveUseOrder_28 rfl rfl dX0_leaveUseOrder_13 ?_
        refine g_iload_n h 3 dX0_leaveUseOrder_16 rfl rfl ?_
        refine g_iald (n := 4) h (wat_A4 E _ (by omega)) (by omega) (by decide) dX0_leaveUseOrder_17 ?_
        refine g_eqi (hV.AC _ _ _) ?_
        refine g_iload_n h 1 dX0_leaveUseOrder_18 rfl rfl ?_
        refine g_icmp_eq h 37 dX0_leaveUseOrder_19 (by decide) (fun c_19 => ?_) (fun c_19 => ?_)
        · skip
          refine g_iinc (lv' := [(0, _), (1, _), (2, _), (3, .int (nI (a4 + 1)))]) h 3 [1, 2, 3, 0] dX0_leaveUseOrder_37 rfl (nI_add _ 1) (by decide) rfl ?_
          refine g_goto h 4 dX0_leaveUseOrder_40 (by decide) ?_
          have hb4 : lp_X0_leaveUseOrder_4 v i j 0 v (a4 + 1) = (_, _) := (if_pos c_19)
          refine g_lvs (lv' := [(0, .ref (aC E i)), (1, .int (nI j)), (2, .int (nI ((lp_X0_leaveUseOrder_4 v i j 0 v (a4 + 1)).1))), (3, .int (nI (a4 + 1)))]) (by rw [hb4]) ?_
          exact ih4 (a4 + 1) _ (by omega) (by omega) (hV.cast (Eq.symm (congrArg (fun z => z.2) hb4)))
        · skip
          refine g_aload_n h 0 dX0_leaveUseOrder_22 rfl rfl ?_
          refine g_get (C := RX0) (T := TX0) (N := 14) h 6 (wat_C E _ (by omega)) rfl in_X0_leaveUseOrder_X0 (by decide) lk_X0_leaveUseOrder_28 rfl rfl dX0_leaveUseOrder_23 ?_
          refine g_iload_n h 2 dX0_leaveUseOrder_26 rfl rfl ?_
          refine g_aload_n h 0 dX0_leaveUseOrder_27 rfl rfl ?_
          refine g_get (C := RX0) (T := TX0) (N := 14) h 6 (wat_C E _ (by omega)) rfl in_X0_leaveUseOrder_X0 (by decide) lk_X0_leaveUseOrder_28 rfl rfl dX0_leaveUseOrder_28 ?_
          refine g_iload_n h 3 dX0_leaveUseOrder_31 rfl rfl ?_
          refine g_iald (n := 4) h (wat_A4 E _ (by omega)) (by omega) (by decide) dX0_leaveUseOrder_32 ?_
          refine g_eqi (hV.AC _ _ _) ?_
          refine g_iast (n := 4) h (ws_A4 E _ (by omega) _) (by have := le_lp_leave (v := v) (i := i) (j := j) (b0 := 0) (b1 := v) a4; omega) (by decide) dX0_leaveUseOrder_33 ?_
          refine g_gen hV.wAC (fun y hV => ?_)
          refine g_iinc (lv' := [(0, _), (1, _), (2, .int (nI ((lp_X0_leaveUseOrder_4 v i j 0 v a4).1 + 1))), (3, _)]) h 2 [1, 2, 0, 3] dX0_leaveUseOrder_34 rfl (nI_add _ 1) (by decide) rfl ?_
          refine g_iinc (lv' := [(0, _), (1, _), (2, _), (3, .int (nI (a4 + 1)))]) h 3 [1, 2, 3, 0] dX0_leaveUseOrder_37 rfl (nI_add _ 1) (by decide) rfl ?_
          refine g_goto h 4 dX0_leaveUseOrder_40 (by decide) ?_
          have hb4 : lp_X0_leaveUseOrder_4 v i j 0 v (a4 + 1) = (_, _) := (if_neg c_19)
          refine g_lvs (lv' := [(0, .ref (aC E i)), (1, .int (nI j)), (2, .int (nI ((lp_X0_leaveUseOrder_4 v i j 0 v (a4 + 1)).1))), (3, .int (nI (a4 + 1)))]) (by rw [hb4]) ?_
          exact ih4 (a4 + 1) _ (by omega) (by omega) (hV.cast (Eq.symm (congrArg (fun z => z.2) hb4)))
  exact loop4 (nat (v.x.FC i 7) + 1) 0 _ (by omega) (by omega) hV
/-- how many lines stay in the order of uses without line j -/
def kc (v : Vw) (i j : Nat) : Nat := (lp_X0_leaveUseOrder_4 v i j 0 v (nat (v.x.FC i 7))).1
theorem kc_le {v : Vw} {i j : Nat} : kc v i j ≤ nat (v.x.FC i 7) := by
  have := le_lp_leave (v := v) (i := i) (j := j) (b0 := 0) (b1 := v) (nat (v.x.FC i 7))
  unfold kc
  omega
theorem leave_FC7 {v : Vw} {i j : Nat} : (s_X0_leaveUseOrder v i j).x.FC i 7 = nI (kc v i j) := by
  unfold s_X0_leaveUseOrder kc
  simp only [vacc, St.FC_setFC, u2, va_up_self]
theorem in_X0_drop_X0 : ∀ w ∈ wsX00, w ∈ wsX0_drop := by decide +kernel
theorem lk_X0_drop_18 : Cond.fieldLink RX0 18 "CacheDirectory$Cache" "states" "[I" ∈ wsX0_drop := by decide +kernel
theorem lk_X0_drop_22 : Cond.fieldLink RX0 22 "CacheDirectory$Cache" "values" "[I" ∈ wsX0_drop := by decide +kernel
def s_X0_drop (v : Vw) (i : Nat) (j : Nat) : Vw :=
  let x1 := vAC v i 0 (upd (v.x.AC i 0) j (nI 0))
  let x2 := vAC x1 i 1 (upd (x1.x.AC i 1) j ((-1 : Int32)))
  let x3 := s_X0_leaveUseOrder x2 i j
  x3
set_option maxRecDepth 100000 in
set_option maxHeartbeats 400000 in
theorem c_X0_drop (l : Launch) (E : gE) (x : St) (v : Vw) (pn hs : List (Nat × M7)) (hV : VW x v pn hs) (i : Nat) (j : Nat) (hi : i < 4) (hj : j < 16) (hc : v.x.FC i 7 = nI (nat (v.x.FC i 7)) ∧ nat (v.x.FC i 7) ≤ 4) : Ct l yX0_drop wsX0_drop { frames := 1, cells := 0, slots := 0, locals := 23 } E [.ref (aC E i), .int (nI j)] x (fun u y => u = none ∧ VW y (s_X0_drop v i j) pn hs) 0 0 := by
  refine Ct.of (cc := cX0_drop) (nL := 2) (ret := none) (by decide) rfl (Nat.le_of_ble_eq_true rfl) ?_
  intro p e s m args below meth c h hr hk hname
  refine g_lvs (lv' := [(0, _), (1, _)]) rfl ?_
  refine g_aload_n h 0 dX0_drop_0 rfl rfl ?_
  refine g_get (C := RX0) (T := TX0) (N := 14) h 3 (wat_C E _ (by omega)) rfl in_X0_drop_X0 (by decide) lk_X0_drop_18 rfl rfl dX0_drop_1 ?_
  refine g_iload_n h 1 dX0_drop_4 rfl rfl ?_
  refine g_iconst (v := nI 0) h dX0_drop_5 (by decide) ?_
  refine g_iast (n := 16) h (ws_A16 E _ (by omega) (by decide) _) (by omega) (by decide) dX0_drop_6 ?_
  refine g_gen hV.wAC (fun y hV => ?_)
  refine g_aload_n h 0 dX0_drop_7 rfl rfl ?_
  refine g_get (C := RX0) (T := TX0) (N := 14) h 4 (wat_C E _ (by omega)) rfl in_X0_drop_X0 (by decide) lk_X0_drop_22 rfl rfl dX0_drop_8 ?_
  refine g_iload_n h 1 dX0_drop_11 rfl rfl ?_
  refine g_iconst (v := -1) h dX0_drop_12 (by decide) ?_
  refine g_iast (n := 16) h (ws_A16 E _ (by omega) (by decide) _) (by omega) (by decide) dX0_drop_13 ?_
  refine g_gen hV.wAC (fun y hV => ?_)
  refine g_aload_n h 0 dX0_drop_14 rfl rfl ?_
  refine g_iload_n h 1 dX0_drop_15 rfl rfl ?_
  refine g_callV (As := [.int (nI j)]) (C := RX0) h 1 (c_X0_leaveUseOrder l E _ _ _ _ hV i j (by omega) (by omega) (by simp only [vacc, St.FC_setAC]; exact hc)) rfl gX0_drop_X0_leaveUseOrder rfl rfl rfl rfl (by decide +kernel) ⟨Nat.le_of_ble_eq_true rfl, Nat.le_of_ble_eq_true rfl⟩ (wat_C E _ (by omega)) rfl rfl dX0_drop_16 ⟨Nat.le_refl _, Nat.le_refl _⟩ (Nat.le_of_ble_eq_true rfl) ?_
  rintro _ y ⟨rfl, hV⟩
  dsimp only [Option.toList, List.cons_append, List.nil_append]
  exact g_vret h hr hk dX0_drop_19 (Nat.zero_le _) (Nat.zero_le _) ⟨rfl, hV.cast (Eq.symm rfl)⟩
theorem in_X0_markUsed_X0 : ∀ w ∈ wsX00, w ∈ wsX0_markUsed := by decide +kernel
theorem lk_X0_markUsed_31 : Cond.fieldLink RX0 31 "CacheDirectory$Cache" "lineCount" "I" ∈ wsX0_markUsed := by decide +kernel
theorem lk_X0_markUsed_28 : Cond.fieldLink RX0 28 "CacheDirectory$Cache" "useOrder" "[I" ∈ wsX0_markUsed := by decide +kernel
def s_X0_markUsed (v : Vw) (i : Nat) (j : Nat) : Vw :=
  let x1 := s_X0_leaveUseOrder v i j
  if 4 ≤ (kc v i j) then
    x1
  else
    let x2 := vAC x1 i 3 (upd (x1.x.AC i 3) (kc v i j) (nI j))
    let x3 := vFC x2 i 7 (nI ((kc v i j) + 1))
    x3
set_option maxRecDepth 100000 in
set_option maxHeartbeats 400000 in
theorem c_X0_markUsed (l : Launch) (E : gE) (x : St) (v : Vw) (pn hs : List (Nat × M7)) (hV : VW x v pn hs) (i : Nat) (j : Nat) (hi : i < 4) (hj : j < 16) (hc : v.x.FC i 7 = nI (nat (v.x.FC i 7)) ∧ nat (v.x.FC i 7) ≤ 4) : Ct l yX0_markUsed wsX0_markUsed { frames := 1, cells := 0, slots := 0, locals := 23 } E [.ref (aC E i), .int (nI j)] x (fun u y => u = none ∧ VW y (s_X0_markUsed v i j) pn hs) 0 0 := by
  refine Ct.of (cc := cX0_markUsed) (nL := 2) (ret := none) (by decide) rfl (Nat.le_of_ble_eq_true rfl) ?_
  intro p e s m args below meth c h hr hk hname
  refine g_lvs (lv' := [(0, _), (1, _)]) rfl ?_
  have hc2 := hc.2
  have hkc := kc_le (v := v) (i := i) (j := j)
  refine g_aload_n h 0 dX0_markUsed_0 rfl rfl ?_
  refine g_iload_n h 1 dX0_markUsed_1 rfl rfl ?_
  refine g_callV (As := [.int (nI j)]) (C := RX0) h 1 (c_X0_leaveUseOrder l E _ _ _ _ hV i j (by omega) (by omega) hc) rfl gX0_markUsed_X0_leaveUseOrder rfl rfl rfl rfl (by decide +kernel) ⟨Nat.le_of_ble_eq_true rfl, Nat.le_of_ble_eq_true rfl⟩ (wat_C E _ (by omega)) rfl rfl dX0_markUsed_2 ⟨Nat.le_refl _, Nat.le_refl _⟩ (Nat.le_of_ble_eq_true rfl) ?_
  rintro _ y ⟨rfl, hV⟩
  dsimp only [Option.toList, List.cons_append, List.nil_append]
  refine g_aload_n h 0 dX0_markUsed_5 rfl rfl ?_
  refine g_get (C := RX0) (T := TX0) (N := 14) h 7 (wat_C E _ (by omega)) rfl in_X0_markUsed_X0 (by decide) lk_X0_markUsed_31 rfl rfl dX0_markUsed_6 ?_
  refine g_eqi (hV.FC _ _) ?_
  refine g_eqi (leave_FC7) ?_
  refine g_iconst (v := nI 4) h dX0_markUsed_9 (by decide) ?_
  refine g_icmp_geN h 33 dX0_markUsed_10 (by decide) (by omega) (by omega) (fun c_10 => ?_) (fun c_10 => ?_)
  · skip
    exact g_vret h hr hk dX0_markUsed_33 (Nat.zero_le _) (Nat.zero_le _) ⟨rfl, hV.cast (Eq.symm (if_pos c_10))⟩
  · skip
    refine g_aload_n h 0 dX0_markUsed_13 rfl rfl ?_
    refine g_get (C := RX0) (T := TX0) (N := 14) h 6 (wat_C E _ (by omega)) rfl in_X0_markUsed_X0 (by decide) lk_X0_markUsed_28 rfl rfl dX0_markUsed_14 ?_
    refine g_aload_n h 0 dX0_markUsed_17 rfl rfl ?_
    refine g_get (C := RX0) (T := TX0) (N := 14) h 7 (wat_C E _ (by omega)) rfl in_X0_markUsed_X0 (by decide) lk_X0_markUsed_31 rfl rfl dX0_markUsed_18 ?_
    refine g_eqi (hV.FC _ _) ?_
    refine g_eqi (leave_FC7) ?_
    refine g_iload_n h 1 dX0_markUsed_21 rfl rfl ?_
    refine g_iast (n := 4) h (ws_A4 E _ (by omega) _) (by omega) (by decide) dX0_markUsed_22 ?_
    refine g_gen hV.wAC (fun y hV => ?_)
    refine g_aload_n h 0 dX0_markUsed_23 rfl rfl ?_
    refine g_dup h dX0_markUsed_24 rfl ?_
    refine g_get (C := RX0) (T := TX0) (N := 14) h 7 (wat_C E _ (by omega)) rfl in_X0_markUsed_X0 (by decide) lk_X0_markUsed_31 rfl rfl dX0_markUsed_25 ?_
    refine g_eqi (hV.FC _ _) ?_
    refine g_eqi (by simp only [vacc, St.FC_setAC]; exact leave_FC7) ?_
    refine g_iconst (v := nI 1) h dX0_markUsed_28 (by decide) ?_
    refine g_iaddN h dX0_markUsed_29 ?_
    refine g_put (C := RX0) (T := TX0) (N := 14) h 7 tyX0 (ws_C7 E _ (by omega) _) rfl in_X0_markUsed_X0 tyX0_ok nmX0 (by decide) lk_X0_markUsed_31 rfl rfl rfl rfl rfl (Nat.le_of_ble_eq_true rfl) dX0_markUsed_30 ?_
    refine g_gen hV.setFC (fun y hV => ?_)
    exact g_vret h hr hk dX0_markUsed_33 (Nat.zero_le _) (Nat.zero_le _) ⟨rfl, hV.cast (Eq.symm (if_neg c_10))⟩
theorem in_X0_store_X0 : ∀ w ∈ wsX00, w ∈ wsX0_store := by decide +kernel
theorem lk_X0_store_18 : Cond.fieldLink RX0 18 "CacheDirectory$Cache" "states" "[I" ∈ wsX0_store := by decide +kernel
theorem lk_X0_store_22 : Cond.fieldLink RX0 22 "CacheDirectory$Cache" "values" "[I" ∈ wsX0_store := by decide +kernel
def s_X0_store (v : Vw) (i : Nat) (j : Nat) (b : Int32) (a : Int32) : Vw :=
  let x1 := vAC v i 0 (upd (v.x.AC i 0) j b)
  let x2 := vAC x1 i 1 (upd (x1.x.AC i 1) j a)
  let x3 := s_X0_markUsed x2 i j
  x3
set_option maxRecDepth 100000 in
set_option maxHeartbeats 400000 in
theorem c_X0_store (l : Launch) (E : gE) (x : St) (v : Vw) (pn hs : List (Nat × M7)) (hV : VW x v pn hs) (i : Nat) (j : Nat) (b : Int32) (a : Int32) (hi : i < 4) (hj : j < 16) (hc : v.x.FC i 7 = nI (nat (v.x.FC i 7)) ∧ nat (v.x.FC i 7) ≤ 4) : Ct l yX0_store wsX0_store { frames := 2, cells := 0, slots := 0, locals := 44 } E [.ref (aC E i), .int (nI j), .int b, .int a] x (fun u y => u = none ∧ VW y (s_X0_store v i j b a) pn hs) 0 0 := by
  refine Ct.of (cc := cX0_store) (nL := 4) (ret := none) (by decide) rfl (Nat.le_of_ble_eq_true rfl) ?_
  intro p e s m args below meth c h hr hk hname
  refine g_lvs (lv' := [(0, _), (1, _), (2, _), (3, _)]) rfl ?_
  refine g_aload_n h 0 dX0_store_0 rfl rfl ?_
  refine g_get (C := RX0) (T := TX0) (N := 14) h 3 (wat_C E _ (by omega)) rfl in_X0_store_X0 (by decide) lk_X0_store_18 rfl rfl dX0_store_1 ?_
  refine g_iload_n h 1 dX0_store_4 rfl rfl ?_
  refine g_iload_n h 2 dX0_store_5 rfl rfl ?_
  refine g_iast (n := 16) h (ws_A16 E _ (by omega) (by decide) _) (by omega) (by decide) dX0_store_6 ?_
  refine g_gen hV.wAC (fun y hV => ?_)
  refine g_aload_n h 0 dX0_store_7 rfl rfl ?_
  refine g_get (C := RX0) (T := TX0) (N := 14) h 4 (wat_C E _ (by omega)) rfl in_X0_store_X0 (by decide) lk_X0_store_22 rfl rfl dX0_store_8 ?_
  refine g_iload_n h 1 dX0_store_11 rfl rfl ?_
  refine g_iload_n h 3 dX0_store_12 rfl rfl ?_
  refine g_iast (n := 16) h (ws_A16 E _ (by omega) (by decide) _) (by omega) (by decide) dX0_store_13 ?_
  refine g_gen hV.wAC (fun y hV => ?_)
  refine g_aload_n h 0 dX0_store_14 rfl rfl ?_
  refine g_iload_n h 1 dX0_store_15 rfl rfl ?_
  refine g_callV (As := [.int (nI j)]) (C := RX0) h 1 (c_X0_markUsed l E _ _ _ _ hV i j (by omega) (by omega) (by simp only [vacc, St.FC_setAC]; exact hc)) rfl gX0_store_X0_markUsed rfl rfl rfl rfl (by decide +kernel) ⟨Nat.le_of_ble_eq_true rfl, Nat.le_of_ble_eq_true rfl⟩ (wat_C E _ (by omega)) rfl rfl dX0_store_16 ⟨Nat.le_refl _, Nat.le_refl _⟩ (Nat.le_of_ble_eq_true rfl) ?_
  rintro _ y ⟨rfl, hV⟩
  dsimp only [Option.toList, List.cons_append, List.nil_append]
  exact g_vret h hr hk dX0_store_19 (Nat.zero_le _) (Nat.zero_le _) ⟨rfl, hV.cast (Eq.symm rfl)⟩
