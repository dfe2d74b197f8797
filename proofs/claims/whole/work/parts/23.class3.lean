theorem q_lp_leave {v : Vw} {i j b0 : Nat} {b1 : Vw} : ∀ a, (lp_X0_leaveUseOrder_4 v i j b0 b1 a).2.q = b1.q := by
  intro a
  induction a with
  | zero => rfl
  | succ a ih =>
    unfold lp_X0_leaveUseOrder_4
    split
    · exact ih
    · exact ih
theorem q_leave {v : Vw} {i j : Nat} : (s_X0_leaveUseOrder v i j).q = v.q := by
  unfold s_X0_leaveUseOrder
  simp only [vacc, q_lp_leave]
theorem q_drop {v : Vw} {i j : Nat} : (s_X0_drop v i j).q = v.q := by
  unfold s_X0_drop
  simp only [vacc, q_leave]
theorem q_markUsed {v : Vw} {i j : Nat} : (s_X0_markUsed v i j).q = v.q := by
  unfold s_X0_markUsed
  simp only
  split <;> simp only [vacc, q_leave]
theorem q_store {v : Vw} {i j : Nat} {b a : Int32} : (s_X0_store v i j b a).q = v.q := by
  unfold s_X0_store
  simp only [vacc, q_markUsed]
theorem q_open {v : Vw} {i : Nat} {b w a : Int32} : (s_X4_open v i b w a).q = v.q := by
  unfold s_X4_open
  simp only [vacc]
theorem len_send {v : Vw} {m : M7} : ((vsend v m).q 16).length = (v.q 16).length + 1 := by
  rw [vsend_q, va_up_self, List.length_append]
  rfl
theorem u2_ne7 {f : Nat → Nat → Int32} {i k n : Nat} {w : Int32} (h : n ≠ 7) : u2 f i n w k 7 = f k 7 := by
  show va_up f i (va_up (f i) n w) k 7 = _
  by_cases hk : k = i
  · subst hk
    rw [va_up_self, va_up_ne _ _ (Ne.symm h)]
  · rw [va_up_ne _ _ hk]
theorem in_X0_moveOut_X0 : ∀ w ∈ wsX00, w ∈ wsX0_moveOut := by decide +kernel
theorem in_X0_moveOut_X2 : ∀ w ∈ wsX20, w ∈ wsX0_moveOut := by decide +kernel
theorem lk_X0_moveOut_18 : Cond.fieldLink RX0 18 "CacheDirectory$Cache" "states" "[I" ∈ wsX0_moveOut := by decide +kernel
theorem lk_X0_moveOut_25 : Cond.fieldLink RX0 25 "CacheDirectory$Cache" "victimValues" "[I" ∈ wsX0_moveOut := by decide +kernel
theorem lk_X0_moveOut_22 : Cond.fieldLink RX0 22 "CacheDirectory$Cache" "values" "[I" ∈ wsX0_moveOut := by decide +kernel
theorem lk_X0_moveOut_35 : Cond.fieldLink RX0 35 "CacheDirectory$Cache" "victimCount" "I" ∈ wsX0_moveOut := by decide +kernel
theorem lk_X0_moveOut_56 : Cond.fieldLink RX0 56 "CacheDirectory$Cache" "network" "LCacheDirectory$Network;" ∈ wsX0_moveOut := by decide +kernel
theorem lk_X0_moveOut_53 : Cond.fieldLink RX0 53 "CacheDirectory$Cache" "number" "I" ∈ wsX0_moveOut := by decide +kernel
theorem lk_X0_moveOut_84 : Cond.fieldLink RX0 84 "CacheDirectory$Message" "carried" "I" ∈ wsX0_moveOut := by decide +kernel
def s_X0_moveOut (v : Vw) (i : Nat) (j : Nat) : Vw :=
  if (v.x.AC i 0 j) = (nI 1) then
    let x1 := s_X0_drop v i j
    x1
  else
    let x2 := vAC v i 2 (upd (v.x.AC i 2) j (v.x.AC i 1 j))
    let x3 := vFC x2 i 8 ((x2.x.FC i 8) + (nI 1))
    let x4 := vsend x3 (va_up (mkM (nI 3) (nI j) (nI i) ((-1 : Int32))) 4 (x3.x.AC i 1 j))
    let x5 := s_X0_drop x4 i j
    x5
set_option maxRecDepth 100000 in
set_option maxHeartbeats 400000 in
theorem c_X0_moveOut (l : Launch) (E : gE) (x : St) (v : Vw) (hs : List (Nat × M7)) (hV : VW x v [] hs) (i : Nat) (j : Nat) (hi : i < 4) (hj : j < 16) (hc : v.x.FC i 7 = nI (nat (v.x.FC i 7)) ∧ nat (v.x.FC i 7) ≤ 4) (hn : (v.q 16).length ≤ 63) : Ct l yX0_moveOut wsX0_moveOut { frames := 8, cells := 2, slots := 103, locals := 485 } E [.ref (aC E i), .int (nI j)] x (fun u y => u = none ∧ VW y (s_X0_moveOut v i j) [] hs) 2 103 := by
  refine Ct.of (cc := cX0_moveOut) (nL := 2) (ret := none) (by decide) rfl (Nat.le_of_ble_eq_true rfl) ?_
  intro p e s m args below meth c h hr hk hname
  refine g_lvs (lv' := [(0, _), (1, _)]) rfl ?_
  refine g_aload_n h 0 dX0_moveOut_0 rfl rfl ?_
  refine g_get (C := RX0) (T := TX0) (N := 14) h 3 (wat_C E _ (by omega)) rfl in_X0_moveOut_X0 (by decide) lk_X0_moveOut_18 rfl rfl dX0_moveOut_1 ?_
  refine g_iload_n h 1 dX0_moveOut_4 rfl rfl ?_
  refine g_iald (n := 16) h (wat_A16 E _ (by omega) (by decide)) (by omega) (by decide) dX0_moveOut_5 ?_
  refine g_eqi (hV.AC _ _ _) ?_
  refine g_iconst (v := nI 1) h dX0_moveOut_6 (by decide) ?_
  refine g_icmp_eq h 55 dX0_moveOut_7 (by decide) (fun c_7 => ?_) (fun c_7 => ?_)
  · skip
    refine g_aload_n h 0 dX0_moveOut_55 rfl rfl ?_
    refine g_iload_n h 1 dX0_moveOut_56 rfl rfl ?_
    refine g_callV (As := [.int (nI j)]) (C := RX0) h 1 (c_X0_drop l E _ _ _ _ hV i j (by omega) (by omega) hc) rfl gX0_moveOut_X0_drop rfl rfl rfl rfl (by decide +kernel) ⟨Nat.le_of_ble_eq_true rfl, Nat.le_of_ble_eq_true rfl⟩ (wat_C E _ (by omega)) rfl rfl dX0_moveOut_57 ⟨by dsimp only; omega, by dsimp only; omega⟩ (Nat.le_of_ble_eq_true rfl) ?_
    rintro _ y ⟨rfl, hV⟩
    dsimp only [Option.toList, List.cons_append, List.nil_append]
    exact g_vret h hr hk dX0_moveOut_60 (by omega) (by omega) ⟨rfl, hV.cast (Eq.symm (if_pos c_7))⟩
  · skip
    refine g_aload_n h 0 dX0_moveOut_10 rfl rfl ?_
    refine g_get (C := RX0) (T := TX0) (N := 14) h 5 (wat_C E _ (by omega)) rfl in_X0_moveOut_X0 (by decide) lk_X0_moveOut_25 rfl rfl dX0_moveOut_11 ?_
    refine g_iload_n h 1 dX0_moveOut_14 rfl rfl ?_
    refine g_aload_n h 0 dX0_moveOut_15 rfl rfl ?_
    refine g_get (C := RX0) (T := TX0) (N := 14) h 4 (wat_C E _ (by omega)) rfl in_X0_moveOut_X0 (by decide) lk_X0_moveOut_22 rfl rfl dX0_moveOut_16 ?_
    refine g_iload_n h 1 dX0_moveOut_19 rfl rfl ?_
    refine g_iald (n := 16) h (wat_A16 E _ (by omega) (by decide)) (by omega) (by decide) dX0_moveOut_20 ?_
    refine g_eqi (hV.AC _ _ _) ?_
    refine g_iast (n := 16) h (ws_A16 E _ (by omega) (by decide) _) (by omega) (by decide) dX0_moveOut_21 ?_
    refine g_gen hV.wAC (fun y hV => ?_)
    refine g_aload_n h 0 dX0_moveOut_22 rfl rfl ?_
    refine g_dup h dX0_moveOut_23 rfl ?_
    refine g_get (C := RX0) (T := TX0) (N := 14) h 8 (wat_C E _ (by omega)) rfl in_X0_moveOut_X0 (by decide) lk_X0_moveOut_35 rfl rfl dX0_moveOut_24 ?_
    refine g_eqi (hV.FC _ _) ?_
    refine g_iconst (v := nI 1) h dX0_moveOut_27 (by decide) ?_
    refine g_iadd h dX0_moveOut_28 ?_
    refine g_put (C := RX0) (T := TX0) (N := 14) h 8 tyX0 (ws_C8 E _ (by omega) _) rfl in_X0_moveOut_X0 tyX0_ok nmX0 (by decide) lk_X0_moveOut_35 rfl rfl rfl rfl rfl (Nat.le_of_ble_eq_true rfl) dX0_moveOut_29 ?_
    refine g_gen hV.setFC (fun y hV => ?_)
    refine g_aload_n h 0 dX0_moveOut_32 rfl rfl ?_
    refine g_get (C := RX0) (T := TX0) (N := 14) h 1 (wat_C E _ (by omega)) rfl in_X0_moveOut_X0 (by decide) lk_X0_moveOut_56 rfl rfl dX0_moveOut_33 ?_
    refine g_iconst (v := nI 3) h dX0_moveOut_36 (by decide) ?_
    refine g_iload_n h 1 dX0_moveOut_37 rfl rfl ?_
    refine g_aload_n h 0 dX0_moveOut_38 rfl rfl ?_
    refine g_get (C := RX0) (T := TX0) (N := 14) h 0 (wat_C E _ (by omega)) rfl in_X0_moveOut_X0 (by decide) lk_X0_moveOut_53 rfl rfl dX0_moveOut_39 ?_
    refine g_iconst (v := -1) h dX0_moveOut_42 (by decide) ?_
    refine g_callV (As := [.int (nI 3), .int (nI j), .int (nI i), .int _]) (C := RX3) h 4 (c_X3_send l E _ _ _ _ _ _ _ hV (by simp only [vacc, q_drop, q_markUsed, q_store, q_open, len_send, q_leave]; exact hn)) rfl gX0_moveOut_X3_send rfl rfl rfl rfl (by decide +kernel) ⟨Nat.le_of_ble_eq_true rfl, Nat.le_of_ble_eq_true rfl⟩ (wat_N E _) rfl rfl dX0_moveOut_43 ⟨by dsimp only; omega, by dsimp only; omega⟩ (Nat.le_of_ble_eq_true rfl) ?_
    rintro _ y ⟨g43, rfl, hV⟩
    dsimp only [Option.toList, List.cons_append, List.nil_append]
    refine g_aload_n h 0 dX0_moveOut_46 rfl rfl ?_
    refine g_get (C := RX0) (T := TX0) (N := 14) h 4 (wat_C E _ (by omega)) rfl in_X0_moveOut_X0 (by decide) lk_X0_moveOut_22 rfl rfl dX0_moveOut_47 ?_
    refine g_iload_n h 1 dX0_moveOut_50 rfl rfl ?_
    refine g_iald (n := 16) h (wat_A16 E _ (by omega) (by decide)) (by omega) (by decide) dX0_moveOut_51 ?_
    refine g_eqi (hV.AC _ _ _) ?_
    refine g_put (C := RX2) (T := TX2) (N := 7) h 4 tyX2 (ws_Ms4 E _ hV.pend.1 hV.pend.2.1 _) rfl in_X0_moveOut_X2 tyX2_ok nmX2 (by decide) lk_X0_moveOut_84 rfl rfl rfl rfl rfl (Nat.le_of_ble_eq_true rfl) dX0_moveOut_52 ?_
    refine g_gen hV.setMF (fun y hV => ?_)
    refine g_aload_n h 0 dX0_moveOut_55 rfl rfl ?_
    refine g_iload_n h 1 dX0_moveOut_56 rfl rfl ?_
    have hV := hV.close
    refine g_callV (As := [.int (nI j)]) (C := RX0) h 1 (c_X0_drop l E _ _ _ _ hV i j (by omega) (by omega) (by simp only [vacc, vsend_x, St.FC_setAC, St.FC_setFC, u2_ne7 (show (8 : Nat) ≠ 7 by decide)]; exact hc)) rfl gX0_moveOut_X0_drop rfl rfl rfl rfl (by decide +kernel) ⟨Nat.le_of_ble_eq_true rfl, Nat.le_of_ble_eq_true rfl⟩ (wat_C E _ (by omega)) rfl rfl dX0_moveOut_57 ⟨by dsimp only; omega, by dsimp only; omega⟩ (Nat.le_of_ble_eq_true rfl) ?_
    rintro _ y ⟨rfl, hV⟩
    dsimp only [Option.toList, List.cons_append, List.nil_append]
    exact g_vret h hr hk dX0_moveOut_60 (by omega) (by omega) ⟨rfl, hV.cast (Eq.symm (if_neg c_7))⟩
