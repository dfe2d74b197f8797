theorem q_lp_leave {v : Vw} {i j b0 : Nat} {b1 : Vw} : ∀ a, (lp_X0_leaveUseOrder_4 v i j b0 b1 a).2.q = b1.q := by
  intro a
  induction a with
  | zero => rfl
  | succ a ih =>
    unfold lp_X0_leaveUseOrder_4
    split
    · exact ih
    · exact ih
theorem q_leave {v : Vw} {i j : Nat} : (s_X0_leaveUseOrder v i j).q = v.q := by
  unfold s_X0_leaveUseOrder
  simp only [vacc, q_lp_leave]
theorem q_drop {v : Vw} {i j : Nat} : (s_X0_drop v i j).q = v.q := by
  unfold s_X0_drop
  simp only [vacc, q_leave]
theorem q_markUsed {v : Vw} {i j : Nat} : (s_X0_markUsed v i j).q = v.q := by
  unfold s_X0_markUsed
  simp only
  split <;> simp only [vacc, q_leave]
theorem q_store {v : Vw} {i j : Nat} {b a : Int32} : (s_X0_store v i j b a).q = v.q := by
  unfold s_X0_store
  simp only [vacc, q_markUsed]
theorem q_open {v : Vw} {i : Nat} {b w a : Int32} : (s_X4_open v i b w a).q = v.q := by
  unfold s_X4_open
  simp only [vacc]
theorem len_send {v : Vw} {m : M7} : ((vsend v m).q 16).length = (v.q 16).length + 1 := by
  rw [vsend_q, va_up_self, List.length_append]
  rfl
theorem u2_ne7 {f : Nat → Nat → Int32} {i k n : Nat} {w : Int32} (h : n ≠ 7) : u2 f i n w k 7 = f k 7 := by
  show va_up f i (va_up (f i) n w) k 7 = _
  by_cases hk : k = i
  · subst hk
    rw [va_up_self, va_up_ne _ _ (Ne.symm h)]
  · rw [va_up_ne _ _ hk]
theorem in_X0_moveOut_X0 : ∀ w ∈ wsX00, w ∈ wsX0_moveOut := by decide +kernel
theorem in_X0_moveOut_X2 : ∀ w ∈ wsX20, w ∈ wsX0_moveOut := by decide +kernel
theorem lk_X0_moveOut_18 : Cond.fieldLink RX0 18 "CacheDirectory$Cache" "states" "[I" ∈ wsX0_moveOut := by decide +kernel
theorem lk_X0_moveOut_25 : Cond.fieldLink RX0 25 "CacheDirectory$Cache" "victimValues" "[I" ∈ wsX0_moveOut := by decide +kernel
theorem lk_X0_moveOut_22 : Cond.fieldLink RX0 22 "CacheDirectory$Cache" "values" "[I" ∈ wsX0_moveOut := by decide +kernel
theorem lk_X0_moveOut_35 : Cond.fieldLink RX0 35 "CacheDirectory$Cache" "victimCount" "I" ∈ wsX0_moveOut := by decide +kernel
theorem lk_X0_moveOut_56 : Cond.fieldLink RX0 56 "CacheDirectory$Cache" "network" "LCacheDirectory$Network;" ∈ wsX0_moveOut := by decide +kernel
theorem lk_X0_moveOut_53 : Cond.fieldLink RX0 53 "CacheDirectory$Cache" "number" "I" ∈ wsX0_moveOut := by decide +kernel
theorem lk_X0_moveOut_84 : Cond.fieldLink RX0 84 "CacheDirectory$Message" "carried" "I" ∈ wsX0_moveOut := by decide +kernel
def s_X0_moveOut (v : Vw) (i : Nat) (j : Nat) : Vw :=
  if (v.x.AC i 0 j) = (nI 1) then
    let x1 := s_X0_drop v i j
    x1
  else
    let x2 := vAC v i 2 (upd (v.x.AC i 2) j (v.x.AC i 1 j))
    let x3 := vFC x2 i 8 ((x2.x.FC i 8) + (nI 1))
    let x4 := vsend x3 (va_up (mkM (nI 3) (nI j) (nI i) ((-1 : Int32))) 4 (x3.x.AC i 1 j))
    let x5 := s_X0_drop x4 i j
    x5
set_option maxRecDepth 100000 in
set_option maxHeartbeats 400000 in
theorem c_X0_moveOut (l : Launch) (E : gE) (x : St) (v : Vw) (hs : List (Nat × M7)) (hV : VW x v [] hs) (i : Nat) (j : Nat) (hi : i < 4) (hj : j < 16) (hc : v.x.FC i 7 = nI (nat (v.x.FC i 7)) ∧ nat (v.x.FC i 7) ≤ 4) (hn : (v.q 16).length ≤ 63) : Ct l yX0_moveOut wsX0_moveOut { frames := 8, cells := 2, slots := 103, locals := 260 } E [.ref (aC E i), .int (nI j)] x (fun u y => u = none ∧ VW y (s_X0_moveOut v i j) [] hs) 2 103 := by
  refine Ct.of (cc := cX0_moveOut) (nL := 2) (ret := none) (by decide) rfl (Nat.le_of_ble_eq_true rfl) ?_
  intro p e s m args below meth c h hr hk hname
  refine g_lvs (lv' := [(0, _), (1, _)]) rfl ?_
  refine g_aload_n h 0 dX0_moveOut_0 rfl rfl ?_
  refine g_get (C := RX0) (T := TX0) (N := 14) h 3 (wat_C E _ (by omega)) rfl in_X0_moveOut_X0 (by decide) lk_X0_moveOut_18 rfl rfl dX0_moveOut_1 ?_
  refine g_iload_n h 1 dX0_moveOut_4 rfl rfl ?_
  refine g_iald (n := 16) h (wat_A16 E _ (by omega) (by decide)) (by omega) (by decide) dX0_moveOut_5 ?_
  refine g_eqi (hV.AC _ _ _) ?_
  refine g_iconst (v := nI 1) h dX0_moveOut_6 (by decide) ?_
  refine g_icmp_eq h 55 dX0_moveOut_7 (by decide) (fun c_7 => ?_) (fun c_7 => ?_)
  · skip
    refine g_aload_n h 0 dX0_moveOut_55 rfl rfl ?_
    refine g_iload_n h 1 dX0_moveOut_56 rfl rfl ?_
    refine g_callV (As := [.int (nI j)]) (C := RX0) h 1 (c_X0_drop l E _ _ _ _ hV i j (by omega) (by omega) hc) rfl gX0_moveOut_X0_drop rfl rfl rfl rfl (by decide +kernel) ⟨Nat.le_of_ble_eq_true rfl, Nat.le_of_ble_eq_true rfl⟩ (wat_C E _ (by omega)) rfl rfl dX0_moveOut_57 ⟨by dsimp only; omega, by dsimp only; omega⟩ (Nat.le_of_ble_eq_true rfl) ?_
    rintro _ y ⟨rfl, hV⟩
    dsimp only [Option.toList, List.cons_append, List.nil_append]
    exact g_vret h hr hk dX0_moveOut_60 (by omega) (by omega) ⟨rfl, hV.cast (Eq.symm (if_pos c_7))⟩
  · skip
    refine g_aload_n h 0 dX0_moveOut_10 rfl rfl ?_
    refine g_get (C := RX0) (T := TX0) (N := 14) h 5 (wat_C E _ (by omega)) rfl in_X0_moveOut_X0 (by decide) lk_X0_moveOut_25 rfl rfl dX0_moveOut_11 ?_
    refine g_iload_n h 1 dX0_moveOut_14 rfl rfl ?_
    refine g_aload_n h 0 dX0_moveOut_15 rfl rfl ?_
    refine g_get (C := RX0) (T := TX0) (N := 14) h 4 (wat_C E _ (by omega)) rfl in_X0_moveOut_X0 (by decide) lk_X0_moveOut_22 rfl rfl dX0_moveOut_16 ?_
    refine g_iload_n h 1 dX0_moveOut_19 rfl rfl ?_
    refine g_iald (n := 16) h (wat_A16 E _ (by omega) (by decide)) (by omega) (by decide) dX0_moveOut_20 ?_
    refine g_eqi (hV.AC _ _ _) ?_
    refine g_iast (n := 16) h (ws_A16 E _ (by omega) (by decide) _) (by omega) (by decide) dX0_moveOut_21 ?_
    refine g_gen hV.wAC (fun y hV => ?_)
    refine g_aload_n h 0 dX0_moveOut_22 rfl rfl ?_
    refine g_dup h dX0_moveOut_23 rfl ?_
    refine g_get (C := RX0) (T := TX0) (N := 14) h 8 (wat_C E _ (by omega)) rfl in_X0_moveOut_X0 (by decide) lk_X0_moveOut_35 rfl rfl dX0_moveOut_24 ?_
    refine g_eqi (hV.FC _ _) ?_
    refine g_iconst (v := nI 1) h dX0_moveOut_27 (by decide) ?_
    refine g_iadd h dX0_moveOut_28 ?_
    refine g_put (C := RX0) (T := TX0) (N := 14) h 8 tyX0 (ws_C8 E _ (by omega) _) rfl in_X0_moveOut_X0 tyX0_ok nmX0 (by decide) lk_X0_moveOut_35 rfl rfl rfl rfl rfl (Nat.le_of_ble_eq_true rfl) dX0_moveOut_29 ?_
    refine g_gen hV.setFC (fun y hV => ?_)
    refine g_aload_n h 0 dX0_moveOut_32 rfl rfl ?_
    refine g_get (C := RX0) (T := TX0) (N := 14) h 1 (wat_C E _ (by omega)) rfl in_X0_moveOut_X0 (by decide) lk_X0_moveOut_56 rfl rfl dX0_moveOut_33 ?_
    refine g_iconst (v := nI 3) h dX0_moveOut_36 (by decide) ?_
    refine g_iload_n h 1 dX0_moveOut_37 rfl rfl ?_
    refine g_aload_n h 0 dX0_moveOut_38 rfl rfl ?_
    refine g_get (C := RX0) (T := TX0) (N := 14) h 0 (wat_C E _ (by omega)) rfl in_X0_moveOut_X0 (by decide) lk_X0_moveOut_53 rfl rfl dX0_moveOut_39 ?_
    refine g_iconst (v := -1) h dX0_moveOut_42 (by decide) ?_
    refine g_callV (As := [.int (nI 3), .int (nI j), .int (nI i), .int _]) (C := RX3) h 4 (c_X3_send l E _ _ _ _ _ _ _ hV (by simp only [vacc, q_drop, q_markUsed, q_store, q_open, len_send, q_leave]; exact hn)) rfl gX0_moveOut_X3_send rfl rfl rfl rfl (by decide +kernel) ⟨Nat.le_of_ble_eq_true rfl, Nat.le_of_ble_eq_true rfl⟩ (wat_N E _) rfl rfl dX0_moveOut_43 ⟨by dsimp only; omega, by dsimp only; omega⟩ (Nat.le_of_ble_eq_true rfl) ?_
    rintro _ y ⟨g43, rfl, hV⟩
    dsimp only [Option.toList, List.cons_append, List.nil_append]
    refine g_aload_n h 0 dX0_moveOut_46 rfl rfl ?_
    refine g_get (C := RX0) (T := TX0) (N := 14) h 4 (wat_C E _ (by omega)) rfl in_X0_moveOut_X0 (by decide) lk_X0_moveOut_22 rfl rfl dX0_moveOut_47 ?_
    refine g_iload_n h 1 dX0_moveOut_50 rfl rfl ?_
    refine g_iald (n := 16) h (wat_A16 E _ (by omega) (by decide)) (by omega) (by decide) dX0_moveOut_51 ?_
    refine g_eqi (hV.AC _ _ _) ?_
    refine g_put (C := RX2) (T := TX2) (N := 7) h 4 tyX2 (ws_Ms4 E _ hV.pend.1 hV.pend.2.1 _) rfl in_X0_moveOut_X2 tyX2_ok nmX2 (by decide) lk_X0_moveOut_84 rfl rfl rfl rfl rfl (Nat.le_of_ble_eq_true rfl) dX0_moveOut_52 ?_
    refine g_gen hV.setMF (fun y hV => ?_)
    refine g_aload_n h 0 dX0_moveOut_55 rfl rfl ?_
    refine g_iload_n h 1 dX0_moveOut_56 rfl rfl ?_
    have hV := hV.close
    refine g_callV (As := [.int (nI j)]) (C := RX0) h 1 (c_X0_drop l E _ _ _ _ hV i j (by omega) (by omega) (by simp only [vacc, vsend_x, St.FC_setAC, St.FC_setFC, u2_ne7 (show (8 : Nat) ≠ 7 by decide)]; exact hc)) rfl gX0_moveOut_X0_drop rfl rfl rfl rfl (by decide +kernel) ⟨Nat.le_of_ble_eq_true rfl, Nat.le_of_ble_eq_true rfl⟩ (wat_C E _ (by omega)) rfl rfl dX0_moveOut_57 ⟨by dsimp only; omega, by dsimp only; omega⟩ (Nat.le_of_ble_eq_true rfl) ?_
    rintro _ y ⟨rfl, hV⟩
    dsimp only [Option.toList, List.cons_append, List.nil_append]
    exact g_vret h hr hk dX0_moveOut_60 (by omega) (by omega) ⟨rfl, hV.cast (Eq.symm (if_neg c_7))⟩
theorem len_moveOut {v : Vw} {i j : Nat} : ((s_X0_moveOut v i j).q 16).length ≤ (v.q 16).length + 1 := by
  unfold s_X0_moveOut
  simp only
  split <;> simp only [vacc, q_drop, q_markUsed, q_store, q_open, len_send, q_leave] <;> omega
theorem in_X0_startRequest_X0 : ∀ w ∈ wsX00, w ∈ wsX0_startRequest := by decide +kernel
theorem lk_X0_startRequest_50 : Cond.fieldLink RX0 50 "CacheDirectory$Cache" "missCount" "I" ∈ wsX0_startRequest := by decide +kernel
theorem lk_X0_startRequest_12 : Cond.fieldLink RX0 12 "CacheDirectory$Cache" "request" "LCacheDirectory$Request;" ∈ wsX0_startRequest := by decide +kernel
theorem lk_X0_startRequest_56 : Cond.fieldLink RX0 56 "CacheDirectory$Cache" "network" "LCacheDirectory$Network;" ∈ wsX0_startRequest := by decide +kernel
theorem lk_X0_startRequest_53 : Cond.fieldLink RX0 53 "CacheDirectory$Cache" "number" "I" ∈ wsX0_startRequest := by decide +kernel
theorem lk_X0_startRequest_28 : Cond.fieldLink RX0 28 "CacheDirectory$Cache" "useOrder" "[I" ∈ wsX0_startRequest := by decide +kernel
def s_X0_startRequest (v : Vw) (i : Nat) (j : Nat) (w : Int32) (tw : Int32) : Vw :=
  if (nI (r_X0_needsWayFor v i j)) = 0 then
    let x1 := vFC v i 13 ((v.x.FC i 13) + (nI 1))
    let x2 := s_X4_open x1 i (nI j) w tw
    if w = 0 then
      let x3 := vsend x2 (mkM (nI 1) (nI j) (nI i) ((-1 : Int32)))
      x3
    else
      let x4 := vsend x2 (mkM (nI 2) (nI j) (nI i) ((-1 : Int32)))
      x4
  else
    let x5 := s_X0_moveOut v i (nat (v.x.AC i 3 0))
    let x6 := vFC x5 i 13 ((x5.x.FC i 13) + (nI 1))
    let x7 := s_X4_open x6 i (nI j) w tw
    if w = 0 then
      let x8 := vsend x7 (mkM (nI 1) (nI j) (nI i) ((-1 : Int32)))
      x8
    else
      let x9 := vsend x7 (mkM (nI 2) (nI j) (nI i) ((-1 : Int32)))
      x9
set_option maxRecDepth 100000 in
set_option maxHeartbeats 400000 in
theorem c_X0_startRequest (l : Launch) (E : gE) (x : St) (v : Vw) (hs : List (Nat × M7)) (hV : VW x v [] hs) (i : Nat) (j : Nat) (w : Int32) (tw : Int32) (hi : i < 4) (hj : j < 16) (hw : w = 0 ∨ w = 1) (hc : v.x.FC i 7 = nI (nat (v.x.FC i 7)) ∧ nat (v.x.FC i 7) ≤ 4) (hu : v.x.AC i 3 0 = nI (nat (v.x.AC i 3 0)) ∧ nat (v.x.AC i 3 0) < 16) (hn : (v.q 16).length ≤ 62) : Ct l yX0_startRequest wsX0_startRequest { frames := 9, cells := 4, slots := 206, locals := 281 } E [.ref (aC E i), .int (nI j), .int w, .int tw] x (fun u y => u = none ∧ VW y (s_X0_startRequest v i j w tw) [] hs) 4 206 := by
  refine Ct.of (cc := cX0_startRequest) (nL := 4) (ret := none) (by decide) rfl (Nat.le_of_ble_eq_true rfl) ?_
  intro p e s m args below meth c h hr hk hname
  refine g_lvs (lv' := [(0, _), (1, _), (2, _), (3, _)]) rfl ?_
  refine g_aload_n h 0 dX0_startRequest_0 rfl rfl ?_
  refine g_iload_n h 1 dX0_startRequest_1 rfl rfl ?_
  refine g_callV (As := [.int (nI j)]) (C := RX0) h 1 (c_X0_needsWayFor l E _ _ _ _ hV i j (by omega) (by omega)) rfl gX0_startRequest_X0_needsWayFor rfl rfl rfl rfl (by decide +kernel) ⟨Nat.le_of_ble_eq_true rfl, Nat.le_of_ble_eq_true rfl⟩ (wat_C E _ (by omega)) rfl rfl dX0_startRequest_2 ⟨by dsimp only; omega, by dsimp only; omega⟩ (Nat.le_of_ble_eq_true rfl) ?_
  rintro _ _ ⟨rfl, hy⟩
  obtain rfl := hy.symm
  dsimp only [Option.toList, List.cons_append, List.nil_append]
  refine g_if_eq h 18 dX0_startRequest_5 (by decide) (fun c_5 => ?_) (fun c_5 => ?_)
  · skip
    refine g_aload_n h 0 dX0_startRequest_18 rfl rfl ?_
    refine g_dup h dX0_startRequest_19 rfl ?_
    refine g_get (C := RX0) (T := TX0) (N := 14) h 13 (wat_C E _ (by omega)) rfl in_X0_startRequest_X0 (by decide) lk_X0_startRequest_50 rfl rfl dX0_startRequest_20 ?_
    refine g_eqi (hV.FC _ _) ?_
    refine g_iconst (v := nI 1) h dX0_startRequest_23 (by decide) ?_
    refine g_iadd h dX0_startRequest_24 ?_
    refine g_put (C := RX0) (T := TX0) (N := 14) h 13 tyX0 (ws_C13 E _ (by omega) _) rfl in_X0_startRequest_X0 tyX0_ok nmX0 (by decide) lk_X0_startRequest_50 rfl rfl rfl rfl rfl (Nat.le_of_ble_eq_true rfl) dX0_startRequest_25 ?_
    refine g_gen hV.setFC (fun y hV => ?_)
    refine g_aload_n h 0 dX0_startRequest_28 rfl rfl ?_
    refine g_get (C := RX0) (T := TX0) (N := 14) h 2 (wat_C E _ (by omega)) rfl in_X0_startRequest_X0 (by decide) lk_X0_startRequest_12 rfl rfl dX0_startRequest_29 ?_
    refine g_iload_n h 1 dX0_startRequest_32 rfl rfl ?_
    refine g_iload_n h 2 dX0_startRequest_33 rfl rfl ?_
    refine g_iload_n h 3 dX0_startRequest_34 rfl rfl ?_
    refine g_callV (As := [.int (nI j), .int _, .int _]) (C := RX4) h 3 (c_X4_open l E _ _ _ _ hV i (nI j) _ _ (by omega) hw) rfl gX0_startRequest_X4_open rfl rfl rfl rfl (by decide +kernel) ⟨Nat.le_of_ble_eq_true rfl, Nat.le_of_ble_eq_true rfl⟩ (wat_R E _ (by omega)) rfl rfl dX0_startRequest_35 ⟨by dsimp only; omega, by dsimp only; omega⟩ (Nat.le_of_ble_eq_true rfl) ?_
    rintro _ y ⟨rfl, hV⟩
    dsimp only [Option.toList, List.cons_append, List.nil_append]
    refine g_aload_n h 0 dX0_startRequest_38 rfl rfl ?_
    refine g_get (C := RX0) (T := TX0) (N := 14) h 1 (wat_C E _ (by omega)) rfl in_X0_startRequest_X0 (by decide) lk_X0_startRequest_56 rfl rfl dX0_startRequest_39 ?_
    refine g_iload_n h 2 dX0_startRequest_42 rfl rfl ?_
    refine g_if_eq h 50 dX0_startRequest_43 (by decide) (fun c_43 => ?_) (fun c_43 => ?_)
    · skip
      refine g_iconst (v := nI 1) h dX0_startRequest_50 (by decide) ?_
      refine g_iload_n h 1 dX0_startRequest_51 rfl rfl ?_
      refine g_aload_n h 0 dX0_startRequest_52 rfl rfl ?_
      refine g_get (C := RX0) (T := TX0) (N := 14) h 0 (wat_C E _ (by omega)) rfl in_X0_startRequest_X0 (by decide) lk_X0_startRequest_53 rfl rfl dX0_startRequest_53 ?_
      refine g_iconst (v := -1) h dX0_startRequest_56 (by decide) ?_
      refine g_callV (As := [.int (nI 1), .int (nI j), .int (nI i), .int _]) (C := RX3) h 4 (c_X3_send l E _ _ _ _ _ _ _ hV (by simp only [vacc, q_drop, q_markUsed, q_store, q_open, len_send, q_leave]; omega)) rfl gX0_startRequest_X3_send rfl rfl rfl rfl (by decide +kernel) ⟨Nat.le_of_ble_eq_true rfl, Nat.le_of_ble_eq_true rfl⟩ (wat_N E _) rfl rfl dX0_startRequest_57 ⟨by dsimp only; omega, by dsimp only; omega⟩ (Nat.le_of_ble_eq_true rfl) ?_
      rintro _ y ⟨g57, rfl, hV⟩
      dsimp only [Option.toList, List.cons_append, List.nil_append]
      refine g_pop h dX0_startRequest_60 rfl ?_
      have hV := hV.close
      exact g_vret h hr hk dX0_startRequest_61 (by omega) (by omega) ⟨rfl, hV.cast (Eq.symm (Eq.trans (if_pos c_5) (if_pos c_43)))⟩
    · skip
      refine g_iconst (v := nI 2) h dX0_startRequest_46 (by decide) ?_
      refine g_goto h 51 dX0_startRequest_47 (by decide) ?_
      refine g_iload_n h 1 dX0_startRequest_51 rfl rfl ?_
      refine g_aload_n h 0 dX0_startRequest_52 rfl rfl ?_
      refine g_get (C := RX0) (T := TX0) (N := 14) h 0 (wat_C E _ (by omega)) rfl in_X0_startRequest_X0 (by decide) lk_X0_startRequest_53 rfl rfl dX0_startRequest_53 ?_
      refine g_iconst (v := -1) h dX0_startRequest_56 (by decide) ?_
      refine g_callV (As := [.int (nI 2), .int (nI j), .int (nI i), .int _]) (C := RX3) h 4 (c_X3_send l E _ _ _ _ _ _ _ hV (by simp only [vacc, q_drop, q_markUsed, q_store, q_open, len_send, q_leave]; omega)) rfl gX0_startRequest_X3_send rfl rfl rfl rfl (by decide +kernel) ⟨Nat.le_of_ble_eq_true rfl, Nat.le_of_ble_eq_true rfl⟩ (wat_N E _) rfl rfl dX0_startRequest_57 ⟨by dsimp only; omega, by dsimp only; omega⟩ (Nat.le_of_ble_eq_true rfl) ?_
      rintro _ y ⟨g57, rfl, hV⟩
      dsimp only [Option.toList, List.cons_append, List.nil_append]
      refine g_pop h dX0_startRequest_60 rfl ?_
      have hV := hV.close
      exact g_vret h hr hk dX0_startRequest_61 (by omega) (by omega) ⟨rfl, hV.cast (Eq.symm (Eq.trans (if_pos c_5) (if_neg c_43)))⟩
  · skip
    refine g_aload_n h 0 dX0_startRequest_8 rfl rfl ?_
    refine g_aload_n h 0 dX0_startRequest_9 rfl rfl ?_
    refine g_get (C := RX0) (T := TX0) (N := 14) h 6 (wat_C E _ (by omega)) rfl in_X0_startRequest_X0 (by decide) lk_X0_startRequest_28 rfl rfl dX0_startRequest_10 ?_
    refine g_iconst (v := nI 0) h dX0_startRequest_13 (by decide) ?_
    refine g_iald (n := 4) h (wat_A4 E _ (by omega)) (by omega) (by decide) dX0_startRequest_14 ?_
    refine g_eqi (hV.AC _ _ _) ?_
    refine g_eqi (hu.1) ?_
    refine g_callV (As := [.int (nI (nat (v.x.AC i 3 0)))]) (C := RX0) h 1 (c_X0_moveOut l E _ _ _ hV i (nat (v.x.AC i 3 0)) (by omega) hu.2 hc (by omega)) rfl gX0_startRequest_X0_moveOut rfl rfl rfl rfl (by decide +kernel) ⟨Nat.le_of_ble_eq_true rfl, Nat.le_of_ble_eq_true rfl⟩ (wat_C E _ (by omega)) rfl rfl dX0_startRequest_15 ⟨by dsimp only; omega, by dsimp only; omega⟩ (Nat.le_of_ble_eq_true rfl) ?_
    rintro _ y ⟨rfl, hV⟩
    dsimp only [Option.toList, List.cons_append, List.nil_append]
    refine g_aload_n h 0 dX0_startRequest_18 rfl rfl ?_
    refine g_dup h dX0_startRequest_19 rfl ?_
    refine g_get (C := RX0) (T := TX0) (N := 14) h 13 (wat_C E _ (by omega)) rfl in_X0_startRequest_X0 (by decide) lk_X0_startRequest_50 rfl rfl dX0_startRequest_20 ?_
    refine g_eqi (hV.FC _ _) ?_
    refine g_iconst (v := nI 1) h dX0_startRequest_23 (by decide) ?_
    refine g_iadd h dX0_startRequest_24 ?_
    refine g_put (C := RX0) (T := TX0) (N := 14) h 13 tyX0 (ws_C13 E _ (by omega) _) rfl in_X0_startRequest_X0 tyX0_ok nmX0 (by decide) lk_X0_startRequest_50 rfl rfl rfl rfl rfl (Nat.le_of_ble_eq_true rfl) dX0_startRequest_25 ?_
    refine g_gen hV.setFC (fun y hV => ?_)
    refine g_aload_n h 0 dX0_startRequest_28 rfl rfl ?_
    refine g_get (C := RX0) (T := TX0) (N := 14) h 2 (wat_C E _ (by omega)) rfl in_X0_startRequest_X0 (by decide) lk_X0_startRequest_12 rfl rfl dX0_startRequest_29 ?_
    refine g_iload_n h 1 dX0_startRequest_32 rfl rfl ?_
    refine g_iload_n h 2 dX0_startRequest_33 rfl rfl ?_
    refine g_iload_n h 3 dX0_startRequest_34 rfl rfl ?_
    refine g_callV (As := [.int (nI j), .int _, .int _]) (C := RX4) h 3 (c_X4_open l E _ _ _ _ hV i (nI j) _ _ (by omega) hw) rfl gX0_startRequest_X4_open rfl rfl rfl rfl (by decide +kernel) ⟨Nat.le_of_ble_eq_true rfl, Nat.le_of_ble_eq_true rfl⟩ (wat_R E _ (by omega)) rfl rfl dX0_startRequest_35 ⟨by dsimp only; omega, by dsimp only; omega⟩ (Nat.le_of_ble_eq_true rfl) ?_
    rintro _ y ⟨rfl, hV⟩
    dsimp only [Option.toList, List.cons_append, List.nil_append]
    refine g_aload_n h 0 dX0_startRequest_38 rfl rfl ?_
    refine g_get (C := RX0) (T := TX0) (N := 14) h 1 (wat_C E _ (by omega)) rfl in_X0_startRequest_X0 (by decide) lk_X0_startRequest_56 rfl rfl dX0_startRequest_39 ?_
    refine g_iload_n h 2 dX0_startRequest_42 rfl rfl ?_
    refine g_if_eq h 50 dX0_startRequest_43 (by decide) (fun c_43 => ?_) (fun c_43 => ?_)
    · skip
      refine g_iconst (v := nI 1) h dX0_startRequest_50 (by decide) ?_
      refine g_iload_n h 1 dX0_startRequest_51 rfl rfl ?_
      refine g_aload_n h 0 dX0_startRequest_52 rfl rfl ?_
      refine g_get (C := RX0) (T := TX0) (N := 14) h 0 (wat_C E _ (by omega)) rfl in_X0_startRequest_X0 (by decide) lk_X0_startRequest_53 rfl rfl dX0_startRequest_53 ?_
      refine g_iconst (v := -1) h dX0_startRequest_56 (by decide) ?_
      refine g_callV (As := [.int (nI 1), .int (nI j), .int (nI i), .int _]) (C := RX3) h 4 (c_X3_send l E _ _ _ _ _ _ _ hV (by simp only [vacc, q_drop, q_markUsed, q_store, q_open, len_send, q_leave]; have := len_moveOut (v := v) (i := i) (j := nat (v.x.AC i 3 0)); omega)) rfl gX0_startRequest_X3_send rfl rfl rfl rfl (by decide +kernel) ⟨Nat.le_of_ble_eq_true rfl, Nat.le_of_ble_eq_true rfl⟩ (wat_N E _) rfl rfl dX0_startRequest_57 ⟨by dsimp only; omega, by dsimp only; omega⟩ (Nat.le_of_ble_eq_true rfl) ?_
      rintro _ y ⟨g57, rfl, hV⟩
      dsimp only [Option.toList, List.cons_append, List.nil_append]
      refine g_pop h dX0_startRequest_60 rfl ?_
      have hV := hV.close
      exact g_vret h hr hk dX0_startRequest_61 (by omega) (by omega) ⟨rfl, hV.cast (Eq.symm (Eq.trans (if_neg c_5) (if_pos c_43)))⟩
    · skip
      refine g_iconst (v := nI 2) h dX0_startRequest_46 (by decide) ?_
      refine g_goto h 51 dX0_startRequest_47 (by decide) ?_
      refine g_iload_n h 1 dX0_startRequest_51 rfl rfl ?_
      refine g_aload_n h 0 dX0_startRequest_52 rfl rfl ?_
      refine g_get (C := RX0) (T := TX0) (N := 14) h 0 (wat_C E _ (by omega)) rfl in_X0_startRequest_X0 (by decide) lk_X0_startRequest_53 rfl rfl dX0_startRequest_53 ?_
      refine g_iconst (v := -1) h dX0_startRequest_56 (by decide) ?_
      refine g_callV (As := [.int (nI 2), .int (nI j), .int (nI i), .int _]) (C := RX3) h 4 (c_X3_send l E _ _ _ _ _ _ _ hV (by simp only [vacc, q_drop, q_markUsed, q_store, q_open, len_send, q_leave]; have := len_moveOut (v := v) (i := i) (j := nat (v.x.AC i 3 0)); omega)) rfl gX0_startRequest_X3_send rfl rfl rfl rfl (by decide +kernel) ⟨Nat.le_of_ble_eq_true rfl, Nat.le_of_ble_eq_true rfl⟩ (wat_N E _) rfl rfl dX0_startRequest_57 ⟨by dsimp only; omega, by dsimp only; omega⟩ (Nat.le_of_ble_eq_true rfl) ?_
      rintro _ y ⟨g57, rfl, hV⟩
      dsimp only [Option.toList, List.cons_append, List.nil_append]
      refine g_pop h dX0_startRequest_60 rfl ?_
      have hV := hV.close
      exact g_vret h hr hk dX0_startRequest_61 (by omega) (by omega) ⟨rfl, hV.cast (Eq.symm (Eq.trans (if_neg c_5) (if_neg c_43)))⟩
theorem in_X0_finishIfComplete_X0 : ∀ w ∈ wsX00, w ∈ wsX0_finishIfComplete := by decide +kernel
theorem in_X0_finishIfComplete_X4 : ∀ w ∈ wsX40, w ∈ wsX0_finishIfComplete := by decide +kernel
theorem lk_X0_finishIfComplete_12 : Cond.fieldLink RX0 12 "CacheDirectory$Cache" "request" "LCacheDirectory$Request;" ∈ wsX0_finishIfComplete := by decide +kernel
theorem lk_X0_finishIfComplete_126 : Cond.fieldLink RX0 126 "CacheDirectory$Request" "forWriting" "Z" ∈ wsX0_finishIfComplete := by decide +kernel
theorem lk_X0_finishIfComplete_99 : Cond.fieldLink RX0 99 "CacheDirectory$Request" "received" "I" ∈ wsX0_finishIfComplete := by decide +kernel
theorem lk_X0_finishIfComplete_44 : Cond.fieldLink RX0 44 "CacheDirectory$Cache" "latestResult" "I" ∈ wsX0_finishIfComplete := by decide +kernel
theorem lk_X0_finishIfComplete_60 : Cond.fieldLink RX0 60 "CacheDirectory$Request" "line" "I" ∈ wsX0_finishIfComplete := by decide +kernel
theorem lk_X0_finishIfComplete_56 : Cond.fieldLink RX0 56 "CacheDirectory$Cache" "network" "LCacheDirectory$Network;" ∈ wsX0_finishIfComplete := by decide +kernel
theorem lk_X0_finishIfComplete_53 : Cond.fieldLink RX0 53 "CacheDirectory$Cache" "number" "I" ∈ wsX0_finishIfComplete := by decide +kernel
theorem lk_X0_finishIfComplete_129 : Cond.fieldLink RX0 129 "CacheDirectory$Request" "toWrite" "I" ∈ wsX0_finishIfComplete := by decide +kernel
def s_X0_finishIfComplete (v : Vw) (i : Nat) (j : Nat) : Vw :=
  if (nI (r_X4_isComplete v i)) = 0 then
    v
  else
    if (v.x.FR i 1) = 0 then
      let x1 := s_X0_store v i j (nI 1) (v.x.FR i 4)
      let x2 := vFC x1 i 11 (x1.x.FR i 4)
      let x3 := vFR x2 i 0 ((-1 : Int32))
      let x4 := vsend x3 (mkM (nI 4) (nI j) (nI i) ((-1 : Int32)))
      x4
    else
      let x5 := s_X0_store v i j (nI 3) (v.x.FR i 2)
      let x6 := vFR x5 i 0 ((-1 : Int32))
      let x7 := vsend x6 (mkM (nI 4) (nI j) (nI i) ((-1 : Int32)))
      x7
set_option maxRecDepth 100000 in
set_option maxHeartbeats 400000 in
theorem c_X0_finishIfComplete (l : Launch) (E : gE) (x : St) (v : Vw) (hs : List (Nat × M7)) (hV : VW x v [] hs) (i : Nat) (j : Nat) (hi : i < 4) (hj : j < 16) (hc : v.x.FC i 7 = nI (nat (v.x.FC i 7)) ∧ nat (v.x.FC i 7) ≤ 4) (hn : (v.q 16).length ≤ 63) : Ct l yX0_finishIfComplete wsX0_finishIfComplete { frames := 8, cells := 2, slots := 103, locals := 260 } E [.ref (aC E i), .int (nI j)] x (fun u y => u = none ∧ VW y (s_X0_finishIfComplete v i j) [] hs) 2 103 := by
  refine Ct.of (cc := cX0_finishIfComplete) (nL := 2) (ret := none) (by decide) rfl (Nat.le_of_ble_eq_true rfl) ?_
  intro p e s m args below meth c h hr hk hname
  refine g_lvs (lv' := [(0, _), (1, _)]) rfl ?_
  refine g_aload_n h 0 dX0_finishIfComplete_0 rfl rfl ?_
  refine g_get (C := RX0) (T := TX0) (N := 14) h 2 (wat_C E _ (by omega)) rfl in_X0_finishIfComplete_X0 (by decide) lk_X0_finishIfComplete_12 rfl rfl dX0_finishIfComplete_1 ?_
  refine g_callV (As := []) (C := RX4) h 0 (c_X4_isComplete l E _ _ _ _ hV i (by omega)) rfl gX0_finishIfComplete_X4_isComplete rfl rfl rfl rfl (by decide +kernel) ⟨Nat.le_of_ble_eq_true rfl, Nat.le_of_ble_eq_true rfl⟩ (wat_R E _ (by omega)) rfl rfl dX0_finishIfComplete_4 ⟨by dsimp only; omega, by dsimp only; omega⟩ (Nat.le_of_ble_eq_true rfl) ?_
  rintro _ _ ⟨rfl, hy⟩
  obtain rfl := hy.symm
  dsimp only [Option.toList, List.cons_append, List.nil_append]
  refine g_if_ne h 11 dX0_finishIfComplete_7 (by decide) (fun c_7 => ?_) (fun c_7 => ?_)
  · skip
    refine g_aload_n h 0 dX0_finishIfComplete_11 rfl rfl ?_
    refine g_get (C := RX0) (T := TX0) (N := 14) h 2 (wat_C E _ (by omega)) rfl in_X0_finishIfComplete_X0 (by decide) lk_X0_finishIfComplete_12 rfl rfl dX0_finishIfComplete_12 ?_
    refine g_get (C := RX4) (T := TX4) (N := 7) h 1 (wat_R E _ (by omega)) rfl in_X0_finishIfComplete_X4 (by decide) lk_X0_finishIfComplete_126 rfl rfl dX0_finishIfComplete_15 ?_
    refine g_eqi (hV.FR _ _) ?_
    refine g_if_eq h 37 dX0_finishIfComplete_18 (by decide) (fun c_18 => ?_) (fun c_18 => ?_)
    · skip
      refine g_aload_n h 0 dX0_finishIfComplete_37 rfl rfl ?_
      refine g_iload_n h 1 dX0_finishIfComplete_38 rfl rfl ?_
      refine g_iconst (v := nI 1) h dX0_finishIfComplete_39 (by decide) ?_
      refine g_aload_n h 0 dX0_finishIfComplete_40 rfl rfl ?_
      refine g_get (C := RX0) (T := TX0) (N := 14) h 2 (wat_C E _ (by omega)) rfl in_X0_finishIfComplete_X0 (by decide) lk_X0_finishIfComplete_12 rfl rfl dX0_finishIfComplete_41 ?_
      refine g_get (C := RX4) (T := TX4) (N := 7) h 4 (wat_R E _ (by omega)) rfl in_X0_finishIfComplete_X4 (by decide) lk_X0_finishIfComplete_99 rfl rfl dX0_finishIfComplete_44 ?_
      refine g_eqi (hV.FR _ _) ?_
      refine g_callV (As := [.int (nI j), .int (nI 1), .int _]) (C := RX0) h 3 (c_X0_store l E _ _ _ _ hV i j (nI 1) _ (by omega) (by omega) hc) rfl gX0_finishIfComplete_X0_store rfl rfl rfl rfl (by decide +kernel) ⟨Nat.le_of_ble_eq_true rfl, Nat.le_of_ble_eq_true rfl⟩ (wat_C E _ (by omega)) rfl rfl dX0_finishIfComplete_47 ⟨by dsimp only; omega, by dsimp only; omega⟩ (Nat.le_of_ble_eq_true rfl) ?_
      rintro _ y ⟨rfl, hV⟩
      dsimp only [Option.toList, List.cons_append, List.nil_append]
      refine g_aload_n h 0 dX0_finishIfComplete_50 rfl rfl ?_
      refine g_aload_n h 0 dX0_finishIfComplete_51 rfl rfl ?_
      refine g_get (C := RX0) (T := TX0) (N := 14) h 2 (wat_C E _ (by omega)) rfl in_X0_finishIfComplete_X0 (by decide) lk_X0_finishIfComplete_12 rfl rfl dX0_finishIfComplete_52 ?_
      refine g_get (C := RX4) (T := TX4) (N := 7) h 4 (wat_R E _ (by omega)) rfl in_X0_finishIfComplete_X4 (by decide) lk_X0_finishIfComplete_99 rfl rfl dX0_finishIfComplete_55 ?_
      refine g_eqi (hV.FR _ _) ?_
      refine g_put (C := RX0) (T := TX0) (N := 14) h 11 tyX0 (ws_C11 E _ (by omega) _) rfl in_X0_finishIfComplete_X0 tyX0_ok nmX0 (by decide) lk_X0_finishIfComplete_44 rfl rfl rfl rfl rfl (Nat.le_of_ble_eq_true rfl) dX0_finishIfComplete_58 ?_
      refine g_gen hV.setFC (fun y hV => ?_)
      refine g_aload_n h 0 dX0_finishIfComplete_61 rfl rfl ?_
      refine g_get (C := RX0) (T := TX0) (N := 14) h 2 (wat_C E _ (by omega)) rfl in_X0_finishIfComplete_X0 (by decide) lk_X0_finishIfComplete_12 rfl rfl dX0_finishIfComplete_62 ?_
      refine g_iconst (v := -1) h dX0_finishIfComplete_65 (by decide) ?_
      refine g_put (C := RX4) (T := TX4) (N := 7) h 0 tyX4 (ws_R0 E _ (by omega) _) rfl in_X0_finishIfComplete_X4 tyX4_ok nmX4 (by decide) lk_X0_finishIfComplete_60 rfl rfl rfl rfl rfl (Nat.le_of_ble_eq_true rfl) dX0_finishIfComplete_66 ?_
      refine g_gen hV.setFR (fun y hV => ?_)
      refine g_aload_n h 0 dX0_finishIfComplete_69 rfl rfl ?_
      refine g_get (C := RX0) (T := TX0) (N := 14) h 1 (wat_C E _ (by omega)) rfl in_X0_finishIfComplete_X0 (by decide) lk_X0_finishIfComplete_56 rfl rfl dX0_finishIfComplete_70 ?_
      refine g_iconst (v := nI 4) h dX0_finishIfComplete_73 (by decide) ?_
      refine g_iload_n h 1 dX0_finishIfComplete_74 rfl rfl ?_
      refine g_aload_n h 0 dX0_finishIfComplete_75 rfl rfl ?_
      refine g_get (C := RX0) (T := TX0) (N := 14) h 0 (wat_C E _ (by omega)) rfl in_X0_finishIfComplete_X0 (by decide) lk_X0_finishIfComplete_53 rfl rfl dX0_finishIfComplete_76 ?_
      refine g_iconst (v := -1) h dX0_finishIfComplete_79 (by decide) ?_
      refine g_callV (As := [.int (nI 4), .int (nI j), .int (nI i), .int _]) (C := RX3) h 4 (c_X3_send l E _ _ _ _ _ _ _ hV (by simp only [vacc, q_drop, q_markUsed, q_store, q_open, len_send, q_leave]; omega)) rfl gX0_finishIfComplete_X3_send rfl rfl rfl rfl (by decide +kernel) ⟨Nat.le_of_ble_eq_true rfl, Nat.le_of_ble_eq_true rfl⟩ (wat_N E _) rfl rfl dX0_finishIfComplete_80 ⟨by dsimp only; omega, by dsimp only; omega⟩ (Nat.le_of_ble_eq_true rfl) ?_
      rintro _ y ⟨g80, rfl, hV⟩
      dsimp only [Option.toList, List.cons_append, List.nil_append]
      refine g_pop h dX0_finishIfComplete_83 rfl ?_
      have hV := hV.close
      exact g_vret h hr hk dX0_finishIfComplete_84 (by omega) (by omega) ⟨rfl, hV.cast (Eq.symm (Eq.trans (if_neg c_7) (if_pos c_18)))⟩
    · skip
      refine g_aload_n h 0 dX0_finishIfComplete_21 rfl rfl ?_
      refine g_iload_n h 1 dX0_finishIfComplete_22 rfl rfl ?_
      refine g_iconst (v := nI 3) h dX0_finishIfComplete_23 (by decide) ?_
      refine g_aload_n h 0 dX0_finishIfComplete_24 rfl rfl ?_
      refine g_get (C := RX0) (T := TX0) (N := 14) h 2 (wat_C E _ (by omega)) rfl in_X0_finishIfComplete_X0 (by decide) lk_X0_finishIfComplete_12 rfl rfl dX0_finishIfComplete_25 ?_
      refine g_get (C := RX4) (T := TX4) (N := 7) h 2 (wat_R E _ (by omega)) rfl in_X0_finishIfComplete_X4 (by decide) lk_X0_finishIfComplete_129 rfl rfl dX0_finishIfComplete_28 ?_
      refine g_eqi (hV.FR _ _) ?_
      refine g_callV (As := [.int (nI j), .int (nI 3), .int _]) (C := RX0) h 3 (c_X0_store l E _ _ _ _ hV i j (nI 3) _ (by omega) (by omega) hc) rfl gX0_finishIfComplete_X0_store rfl rfl rfl rfl (by decide +kernel) ⟨Nat.le_of_ble_eq_true rfl, Nat.le_of_ble_eq_true rfl⟩ (wat_C E _ (by omega)) rfl rfl dX0_finishIfComplete_31 ⟨by dsimp only; omega, by dsimp only; omega⟩ (Nat.le_of_ble_eq_true rfl) ?_
      rintro _ y ⟨rfl, hV⟩
      dsimp only [Option.toList, List.cons_append, List.nil_append]
      refine g_goto h 61 dX0_finishIfComplete_34 (by decide) ?_
      refine g_aload_n h 0 dX0_finishIfComplete_61 rfl rfl ?_
      refine g_get (C := RX0) (T := TX0) (N := 14) h 2 (wat_C E _ (by omega)) rfl in_X0_finishIfComplete_X0 (by decide) lk_X0_finishIfComplete_12 rfl rfl dX0_finishIfComplete_62 ?_
      refine g_iconst (v := -1) h dX0_finishIfComplete_65 (by decide) ?_
      refine g_put (C := RX4) (T := TX4) (N := 7) h 0 tyX4 (ws_R0 E _ (by omega) _) rfl in_X0_finishIfComplete_X4 tyX4_ok nmX4 (by decide) lk_X0_finishIfComplete_60 rfl rfl rfl rfl rfl (Nat.le_of_ble_eq_true rfl) dX0_finishIfComplete_66 ?_
      refine g_gen hV.setFR (fun y hV => ?_)
      refine g_aload_n h 0 dX0_finishIfComplete_69 rfl rfl ?_
      refine g_get (C := RX0) (T := TX0) (N := 14) h 1 (wat_C E _ (by omega)) rfl in_X0_finishIfComplete_X0 (by decide) lk_X0_finishIfComplete_56 rfl rfl dX0_finishIfComplete_70 ?_
      refine g_iconst (v := nI 4) h dX0_finishIfComplete_73 (by decide) ?_
      refine g_iload_n h 1 dX0_finishIfComplete_74 rfl rfl ?_
      refine g_aload_n h 0 dX0_finishIfComplete_75 rfl rfl ?_
      refine g_get (C := RX0) (T := TX0) (N := 14) h 0 (wat_C E _ (by omega)) rfl in_X0_finishIfComplete_X0 (by decide) lk_X0_finishIfComplete_53 rfl rfl dX0_finishIfComplete_76 ?_
      refine g_iconst (v := -1) h dX0_finishIfComplete_79 (by decide) ?_
      refine g_callV (As := [.int (nI 4), .int (nI j), .int (nI i), .int _]) (C := RX3) h 4 (c_X3_send l E _ _ _ _ _ _ _ hV (by simp only [vacc, q_drop, q_markUsed, q_store, q_open, len_send, q_leave]; omega)) rfl gX0_finishIfComplete_X3_send rfl rfl rfl rfl (by decide +kernel) ⟨Nat.le_of_ble_eq_true rfl, Nat.le_of_ble_eq_true rfl⟩ (wat_N E _) rfl rfl dX0_finishIfComplete_80 ⟨by dsimp only; omega, by dsimp only; omega⟩ (Nat.le_of_ble_eq_true rfl) ?_
      rintro _ y ⟨g80, rfl, hV⟩
      dsimp only [Option.toList, List.cons_append, List.nil_append]
      refine g_pop h dX0_finishIfComplete_83 rfl ?_
      have hV := hV.close
      exact g_vret h hr hk dX0_finishIfComplete_84 (by omega) (by omega) ⟨rfl, hV.cast (Eq.symm (Eq.trans (if_neg c_7) (if_neg c_18)))⟩
  · skip
    exact g_vret h hr hk dX0_finishIfComplete_10 (by omega) (by omega) ⟨rfl, hV.cast (Eq.symm (if_pos c_7))⟩
theorem in_X0_passOn_X0 : ∀ w ∈ wsX00, w ∈ wsX0_passOn := by decide +kernel
theorem in_X0_passOn_X2 : ∀ w ∈ wsX20, w ∈ wsX0_passOn := by decide +kernel
theorem lk_X0_passOn_108 : Cond.fieldLink RX0 108 "CacheDirectory$Message" "line" "I" ∈ wsX0_passOn := by decide +kernel
theorem lk_X0_passOn_56 : Cond.fieldLink RX0 56 "CacheDirectory$Cache" "network" "LCacheDirectory$Network;" ∈ wsX0_passOn := by decide +kernel
theorem lk_X0_passOn_53 : Cond.fieldLink RX0 53 "CacheDirectory$Cache" "number" "I" ∈ wsX0_passOn := by decide +kernel
theorem lk_X0_passOn_119 : Cond.fieldLink RX0 119 "CacheDirectory$Message" "requester" "I" ∈ wsX0_passOn := by decide +kernel
theorem lk_X0_passOn_25 : Cond.fieldLink RX0 25 "CacheDirectory$Cache" "victimValues" "[I" ∈ wsX0_passOn := by decide +kernel
theorem lk_X0_passOn_84 : Cond.fieldLink RX0 84 "CacheDirectory$Message" "carried" "I" ∈ wsX0_passOn := by decide +kernel
theorem lk_X0_passOn_102 : Cond.fieldLink RX0 102 "CacheDirectory$Message" "count" "I" ∈ wsX0_passOn := by decide +kernel
theorem lk_X0_passOn_92 : Cond.fieldLink RX0 92 "CacheDirectory$Message" "kind" "I" ∈ wsX0_passOn := by decide +kernel
theorem lk_X0_passOn_18 : Cond.fieldLink RX0 18 "CacheDirectory$Cache" "states" "[I" ∈ wsX0_passOn := by decide +kernel
theorem lk_X0_passOn_22 : Cond.fieldLink RX0 22 "CacheDirectory$Cache" "values" "[I" ∈ wsX0_passOn := by decide +kernel
def s_X0_passOn (v : Vw) (i : Nat) (j : Nat) (mm : M7) : Vw :=
  if (nI (r_X0_holds v i j)) = 0 then
    let x1 := vsend v (va_up (va_up (mkM (nI 5) (nI j) (nI i) (mm 6)) 4 (v.x.AC i 2 j)) 5 (mm 5))
    if (mm 0) = (nI 9) then
      let x3 := s_X0_drop x1 i j
      x3
    else
      if (x1.x.AC i 0 j) = (nI 3) then
        let x2 := vAC x1 i 0 (upd (x1.x.AC i 0) j (nI 2))
        x2
      else
        x1
  else
    let x4 := vsend v (va_up (va_up (mkM (nI 5) (nI j) (nI i) (mm 6)) 4 (v.x.AC i 1 j)) 5 (mm 5))
    if (mm 0) = (nI 9) then
      let x6 := s_X0_drop x4 i j
      x6
    else
      if (x4.x.AC i 0 j) = (nI 3) then
        let x5 := vAC x4 i 0 (upd (x4.x.AC i 0) j (nI 2))
        x5
      else
        x4
set_option maxRecDepth 100000 in
set_option maxHeartbeats 400000 in
theorem c_X0_passOn (l : Launch) (E : gE) (x : St) (v : Vw) (hs : List (Nat × M7)) (hV : VW x v [] hs) (i : Nat) (j : Nat) (am : Nat) (mm : M7) (hi : i < 4) (hj : j < 16) (hc : v.x.FC i 7 = nI (nat (v.x.FC i 7)) ∧ nat (v.x.FC i 7) ≤ 4) (hn : (v.q 16).length ≤ 63) (hm : (am, mm) ∈ hs) (hl : mm 1 = nI j) : Ct l yX0_passOn wsX0_passOn { frames := 8, cells := 2, slots := 103, locals := 260 } E [.ref (aC E i), .ref am] x (fun u y => u = none ∧ VW y (s_X0_passOn v i j mm) [] hs) 2 103 := by
  refine Ct.of (cc := cX0_passOn) (nL := 4) (ret := none) (by decide) rfl (Nat.le_of_ble_eq_true rfl) ?_
  intro p e s m args below meth c h hr hk hname
  refine g_lvs (lv' := [(0, _), (1, _)]) rfl ?_
  refine g_aload_n h 1 dX0_passOn_0 rfl rfl ?_
  refine g_get (C := RX2) (T := TX2) (N := 7) h 1 (wat_Ms E _ (hV.held hm).1 (hV.held hm).2.1) rfl in_X0_passOn_X2 (by decide) lk_X0_passOn_108 rfl rfl dX0_passOn_1 ?_
  refine g_eqi ((hV.held hm).2.2 _) ?_
  refine g_eqi (hl) ?_
  refine g_istore_n (lv' := [(0, _), (1, _), (2, _)]) h [1, 2, 0] dX0_passOn_4 rfl (by decide) rfl ?_
  refine g_aload_n h 0 dX0_passOn_5 rfl rfl ?_
  refine g_get (C := RX0) (T := TX0) (N := 14) h 1 (wat_C E _ (by omega)) rfl in_X0_passOn_X0 (by decide) lk_X0_passOn_56 rfl rfl dX0_passOn_6 ?_
  refine g_iconst (v := nI 5) h dX0_passOn_9 (by decide) ?_
  refine g_iload_n h 2 dX0_passOn_10 rfl rfl ?_
  refine g_aload_n h 0 dX0_passOn_11 rfl rfl ?_
  refine g_get (C := RX0) (T := TX0) (N := 14) h 0 (wat_C E _ (by omega)) rfl in_X0_passOn_X0 (by decide) lk_X0_passOn_53 rfl rfl dX0_passOn_12 ?_
  refine g_aload_n h 1 dX0_passOn_15 rfl rfl ?_
  refine g_get (C := RX2) (T := TX2) (N := 7) h 6 (wat_Ms E _ (hV.held hm).1 (hV.held hm).2.1) rfl in_X0_passOn_X2 (by decide) lk_X0_passOn_119 rfl rfl dX0_passOn_16 ?_
  refine g_eqi ((hV.held hm).2.2 _) ?_
  refine g_callV (As := [.int (nI 5), .int (nI j), .int (nI i), .int _]) (C := RX3) h 4 (c_X3_send l E _ _ _ _ _ _ _ hV (hn)) rfl gX0_passOn_X3_send rfl rfl rfl rfl (by decide +kernel) ⟨Nat.le_of_ble_eq_true rfl, Nat.le_of_ble_eq_true rfl⟩ (wat_N E _) rfl rfl dX0_passOn_19 ⟨by dsimp only; omega, by dsimp only; omega⟩ (Nat.le_of_ble_eq_true rfl) ?_
  rintro _ y ⟨g19, rfl, hV⟩
  dsimp only [Option.toList, List.cons_append, List.nil_append]
  refine g_astore_n (lv' := [(0, _), (1, _), (2, _), (3, _)]) h [1, 2, 3, 0] dX0_passOn_22 rfl (by decide) rfl ?_
  refine g_aload_n h 3 dX0_passOn_23 rfl rfl ?_
  refine g_aload_n h 0 dX0_passOn_24 rfl rfl ?_
  refine g_iload_n h 2 dX0_passOn_25 rfl rfl ?_
  refine g_callV (As := [.int (nI j)]) (C := RX0) h 1 (c_X0_holds l E _ _ _ _ hV i j (by omega) (by omega)) rfl gX0_passOn_X0_holds rfl rfl rfl rfl (by decide +kernel) ⟨Nat.le_of_ble_eq_true rfl, Nat.le_of_ble_eq_true rfl⟩ (wat_C E _ (by omega)) rfl rfl dX0_passOn_26 ⟨by dsimp only; omega, by dsimp only; omega⟩ (Nat.le_of_ble_eq_true rfl) ?_
  rintro _ _ ⟨rfl, hy⟩
  obtain rfl := hy.symm
  dsimp only [Option.toList, List.cons_append, List.nil_append]
  refine g_if_eq h 41 dX0_passOn_29 (by decide) (fun c_29 => ?_) (fun c_29 => ?_)
  · skip
    refine g_aload_n h 0 dX0_passOn_41 rfl rfl ?_
    refine g_get (C := RX0) (T := TX0) (N := 14) h 5 (wat_C E _ (by omega)) rfl in_X0_passOn_X0 (by decide) lk_X0_passOn_25 rfl rfl dX0_passOn_42 ?_
    refine g_iload_n h 2 dX0_passOn_45 rfl rfl ?_
    refine g_iald (n := 16) h (wat_A16 E _ (by omega) (by decide)) (by omega) (by decide) dX0_passOn_46 ?_
    refine g_eqi (hV.AC _ _ _) ?_
    refine g_put (C := RX2) (T := TX2) (N := 7) h 4 tyX2 (ws_Ms4 E _ hV.pend.1 hV.pend.2.1 _) rfl in_X0_passOn_X2 tyX2_ok nmX2 (by decide) lk_X0_passOn_84 rfl rfl rfl rfl rfl (Nat.le_of_ble_eq_true rfl) dX0_passOn_47 ?_
    refine g_gen hV.setMF (fun y hV => ?_)
    refine g_aload_n h 3 dX0_passOn_50 rfl rfl ?_
    refine g_aload_n h 1 dX0_passOn_51 rfl rfl ?_
    refine g_get (C := RX2) (T := TX2) (N := 7) h 5 (wat_Ms E _ (hV.held hm).1 (hV.held hm).2.1) rfl in_X0_passOn_X2 (by decide) lk_X0_passOn_102 rfl rfl dX0_passOn_52 ?_
    refine g_eqi ((hV.held hm).2.2 _) ?_
    refine g_put (C := RX2) (T := TX2) (N := 7) h 5 tyX2 (ws_Ms5 E _ hV.pend.1 hV.pend.2.1 _) rfl in_X0_passOn_X2 tyX2_ok nmX2 (by decide) lk_X0_passOn_102 rfl rfl rfl rfl rfl (Nat.le_of_ble_eq_true rfl) dX0_passOn_55 ?_
    refine g_gen hV.setMF (fun y hV => ?_)
    have hV := hV.close
    refine g_aload_n h 1 dX0_passOn_58 rfl rfl ?_
    refine g_get (C := RX2) (T := TX2) (N := 7) h 0 (wat_Ms E _ (hV.held hm).1 (hV.held hm).2.1) rfl in_X0_passOn_X2 (by decide) lk_X0_passOn_92 rfl rfl dX0_passOn_59 ?_
    refine g_eqi ((hV.held hm).2.2 _) ?_
    refine g_bipush (v := nI 9) h dX0_passOn_62 (by decide) ?_
    refine g_icmp_ne h 75 dX0_passOn_64 (by decide) (fun c_64 => ?_) (fun c_64 => ?_)
    · skip
      refine g_aload_n h 0 dX0_passOn_75 rfl rfl ?_
      refine g_get (C := RX0) (T := TX0) (N := 14) h 3 (wat_C E _ (by omega)) rfl in_X0_passOn_X0 (by decide) lk_X0_passOn_18 rfl rfl dX0_passOn_76 ?_
      refine g_iload_n h 2 dX0_passOn_79 rfl rfl ?_
      refine g_iald (n := 16) h (wat_A16 E _ (by omega) (by decide)) (by omega) (by decide) dX0_passOn_80 ?_
      refine g_eqi (hV.AC _ _ _) ?_
      refine g_iconst (v := nI 3) h dX0_passOn_81 (by decide) ?_
      refine g_icmp_ne h 92 dX0_passOn_82 (by decide) (fun c_82 => ?_) (fun c_82 => ?_)
      · skip
        exact g_vret h hr hk dX0_passOn_92 (by omega) (by omega) ⟨rfl, hV.cast (Eq.symm (Eq.trans (if_pos c_29) (Eq.trans (if_neg c_64) (if_neg c_82))))⟩
      · skip
        refine g_aload_n h 0 dX0_passOn_85 rfl rfl ?_
        refine g_get (C := RX0) (T := TX0) (N := 14) h 3 (wat_C E _ (by omega)) rfl in_X0_passOn_X0 (by decide) lk_X0_passOn_18 rfl rfl dX0_passOn_86 ?_
        refine g_iload_n h 2 dX0_passOn_89 rfl rfl ?_
        refine g_iconst (v := nI 2) h dX0_passOn_90 (by decide) ?_
        refine g_iast (n := 16) h (ws_A16 E _ (by omega) (by decide) _) (by omega) (by decide) dX0_passOn_91 ?_
        refine g_gen hV.wAC (fun y hV => ?_)
        exact g_vret h hr hk dX0_passOn_92 (by omega) (by omega) ⟨rfl, hV.cast (Eq.symm (Eq.trans (if_pos c_29) (Eq.trans (if_neg c_64) (if_pos c_82))))⟩
    · skip
      refine g_aload_n h 0 dX0_passOn_67 rfl rfl ?_
      refine g_iload_n h 2 dX0_passOn_68 rfl rfl ?_
      refine g_callV (As := [.int (nI j)]) (C := RX0) h 1 (c_X0_drop l E _ _ _ _ hV i j (by omega) (by omega) (by simp only [vsend_x]; exact hc)) rfl gX0_passOn_X0_drop rfl rfl rfl rfl (by decide +kernel) ⟨Nat.le_of_ble_eq_true rfl, Nat.le_of_ble_eq_true rfl⟩ (wat_C E _ (by omega)) rfl rfl dX0_passOn_69 ⟨by dsimp only; omega, by dsimp only; omega⟩ (Nat.le_of_ble_eq_true rfl) ?_
      rintro _ y ⟨rfl, hV⟩
      dsimp only [Option.toList, List.cons_append, List.nil_append]
      refine g_goto h 92 dX0_passOn_72 (by decide) ?_
      exact g_vret h hr hk dX0_passOn_92 (by omega) (by omega) ⟨rfl, hV.cast (Eq.symm (Eq.trans (if_pos c_29) (if_pos c_64)))⟩
  · skip
    refine g_aload_n h 0 dX0_passOn_32 rfl rfl ?_
    refine g_get (C := RX0) (T := TX0) (N := 14) h 4 (wat_C E _ (by omega)) rfl in_X0_passOn_X0 (by decide) lk_X0_passOn_22 rfl rfl dX0_passOn_33 ?_
    refine g_iload_n h 2 dX0_passOn_36 rfl rfl ?_
    refine g_iald (n := 16) h (wat_A16 E _ (by omega) (by decide)) (by omega) (by decide) dX0_passOn_37 ?_
    refine g_eqi (hV.AC _ _ _) ?_
    refine g_goto h 47 dX0_passOn_38 (by decide) ?_
    refine g_put (C := RX2) (T := TX2) (N := 7) h 4 tyX2 (ws_Ms4 E _ hV.pend.1 hV.pend.2.1 _) rfl in_X0_passOn_X2 tyX2_ok nmX2 (by decide) lk_X0_passOn_84 rfl rfl rfl rfl rfl (Nat.le_of_ble_eq_true rfl) dX0_passOn_47 ?_
    refine g_gen hV.setMF (fun y hV => ?_)
    refine g_aload_n h 3 dX0_passOn_50 rfl rfl ?_
    refine g_aload_n h 1 dX0_passOn_51 rfl rfl ?_
    refine g_get (C := RX2) (T := TX2) (N := 7) h 5 (wat_Ms E _ (hV.held hm).1 (hV.held hm).2.1) rfl in_X0_passOn_X2 (by decide) lk_X0_passOn_102 rfl rfl dX0_passOn_52 ?_
    refine g_eqi ((hV.held hm).2.2 _) ?_
    refine g_put (C := RX2) (T := TX2) (N := 7) h 5 tyX2 (ws_Ms5 E _ hV.pend.1 hV.pend.2.1 _) rfl in_X0_passOn_X2 tyX2_ok nmX2 (by decide) lk_X0_passOn_102 rfl rfl rfl rfl rfl (Nat.le_of_ble_eq_true rfl) dX0_passOn_55 ?_
    refine g_gen hV.setMF (fun y hV => ?_)
    have hV := hV.close
    refine g_aload_n h 1 dX0_passOn_58 rfl rfl ?_
    refine g_get (C := RX2) (T := TX2) (N := 7) h 0 (wat_Ms E _ (hV.held hm).1 (hV.held hm).2.1) rfl in_X0_passOn_X2 (by decide) lk_X0_passOn_92 rfl rfl dX0_passOn_59 ?_
    refine g_eqi ((hV.held hm).2.2 _) ?_
    refine g_bipush (v := nI 9) h dX0_passOn_62 (by decide) ?_
    refine g_icmp_ne h 75 dX0_passOn_64 (by decide) (fun c_64 => ?_) (fun c_64 => ?_)
    · skip
      refine g_aload_n h 0 dX0_passOn_75 rfl rfl ?_
      refine g_get (C := RX0) (T := TX0) (N := 14) h 3 (wat_C E _ (by omega)) rfl in_X0_passOn_X0 (by decide) lk_X0_passOn_18 rfl rfl dX0_passOn_76 ?_
      refine g_iload_n h 2 dX0_passOn_79 rfl rfl ?_
      refine g_iald (n := 16) h (wat_A16 E _ (by omega) (by decide)) (by omega) (by decide) dX0_passOn_80 ?_
      refine g_eqi (hV.AC _ _ _) ?_
      refine g_iconst (v := nI 3) h dX0_passOn_81 (by decide) ?_
      refine g_icmp_ne h 92 dX0_passOn_82 (by decide) (fun c_82 => ?_) (fun c_82 => ?_)
      · skip
        exact g_vret h hr hk dX0_passOn_92 (by omega) (by omega) ⟨rfl, hV.cast (Eq.symm (Eq.trans (if_neg c_29) (Eq.trans (if_neg c_64) (if_neg c_82))))⟩
      · skip
        refine g_aload_n h 0 dX0_passOn_85 rfl rfl ?_
        refine g_get (C := RX0) (T := TX0) (N := 14) h 3 (wat_C E _ (by omega)) rfl in_X0_passOn_X0 (by decide) lk_X0_passOn_18 rfl rfl dX0_passOn_86 ?_
        refine g_iload_n h 2 dX0_passOn_89 rfl rfl ?_
        refine g_iconst (v := nI 2) h dX0_passOn_90 (by decide) ?_
        refine g_iast (n := 16) h (ws_A16 E _ (by omega) (by decide) _) (by omega) (by decide) dX0_passOn_91 ?_
        refine g_gen hV.wAC (fun y hV => ?_)
        exact g_vret h hr hk dX0_passOn_92 (by omega) (by omega) ⟨rfl, hV.cast (Eq.symm (Eq.trans (if_neg c_29) (Eq.trans (if_neg c_64) (if_pos c_82))))⟩
    · skip
      refine g_aload_n h 0 dX0_passOn_67 rfl rfl ?_
      refine g_iload_n h 2 dX0_passOn_68 rfl rfl ?_
      refine g_callV (As := [.int (nI j)]) (C := RX0) h 1 (c_X0_drop l E _ _ _ _ hV i j (by omega) (by omega) (by simp only [vsend_x]; exact hc)) rfl gX0_passOn_X0_drop rfl rfl rfl rfl (by decide +kernel) ⟨Nat.le_of_ble_eq_true rfl, Nat.le_of_ble_eq_true rfl⟩ (wat_C E _ (by omega)) rfl rfl dX0_passOn_69 ⟨by dsimp only; omega, by dsimp only; omega⟩ (Nat.le_of_ble_eq_true rfl) ?_
      rintro _ y ⟨rfl, hV⟩
      dsimp only [Option.toList, List.cons_append, List.nil_append]
      refine g_goto h 92 dX0_passOn_72 (by decide) ?_
      exact g_vret h hr hk dX0_passOn_92 (by omega) (by omega) ⟨rfl, hV.cast (Eq.symm (Eq.trans (if_neg c_29) (if_pos c_64)))⟩
theorem in_X0_receive_X0 : ∀ w ∈ wsX00, w ∈ wsX0_receive := by decide +kernel
theorem in_X0_receive_X2 : ∀ w ∈ wsX20, w ∈ wsX0_receive := by decide +kernel
theorem in_X0_receive_X4 : ∀ w ∈ wsX40, w ∈ wsX0_receive := by decide +kernel
theorem lk_X0_receive_92 : Cond.fieldLink RX0 92 "CacheDirectory$Message" "kind" "I" ∈ wsX0_receive := by decide +kernel
theorem lk_X0_receive_12 : Cond.fieldLink RX0 12 "CacheDirectory$Cache" "request" "LCacheDirectory$Request;" ∈ wsX0_receive := by decide +kernel
theorem lk_X0_receive_95 : Cond.fieldLink RX0 95 "CacheDirectory$Request" "answered" "Z" ∈ wsX0_receive := by decide +kernel
theorem lk_X0_receive_84 : Cond.fieldLink RX0 84 "CacheDirectory$Message" "carried" "I" ∈ wsX0_receive := by decide +kernel
theorem lk_X0_receive_99 : Cond.fieldLink RX0 99 "CacheDirectory$Request" "received" "I" ∈ wsX0_receive := by decide +kernel
theorem lk_X0_receive_102 : Cond.fieldLink RX0 102 "CacheDirectory$Message" "count" "I" ∈ wsX0_receive := by decide +kernel
theorem lk_X0_receive_105 : Cond.fieldLink RX0 105 "CacheDirectory$Request" "invalidationsDue" "I" ∈ wsX0_receive := by decide +kernel
theorem lk_X0_receive_108 : Cond.fieldLink RX0 108 "CacheDirectory$Message" "line" "I" ∈ wsX0_receive := by decide +kernel
theorem lk_X0_receive_112 : Cond.fieldLink RX0 112 "CacheDirectory$Request" "invalidationsDone" "I" ∈ wsX0_receive := by decide +kernel
theorem lk_X0_receive_18 : Cond.fieldLink RX0 18 "CacheDirectory$Cache" "states" "[I" ∈ wsX0_receive := by decide +kernel
theorem lk_X0_receive_56 : Cond.fieldLink RX0 56 "CacheDirectory$Cache" "network" "LCacheDirectory$Network;" ∈ wsX0_receive := by decide +kernel
theorem lk_X0_receive_53 : Cond.fieldLink RX0 53 "CacheDirectory$Cache" "number" "I" ∈ wsX0_receive := by decide +kernel
theorem lk_X0_receive_119 : Cond.fieldLink RX0 119 "CacheDirectory$Message" "requester" "I" ∈ wsX0_receive := by decide +kernel
theorem lk_X0_receive_25 : Cond.fieldLink RX0 25 "CacheDirectory$Cache" "victimValues" "[I" ∈ wsX0_receive := by decide +kernel
theorem lk_X0_receive_35 : Cond.fieldLink RX0 35 "CacheDirectory$Cache" "victimCount" "I" ∈ wsX0_receive := by decide +kernel
def s_X0_receive (v : Vw) (i : Nat) (j : Nat) (mm : M7) : Vw :=
  if (mm 0) = nI 5 then
    let x1 := vFR v i 3 (nI 1)
    let x2 := vFR x1 i 4 (mm 4)
    let x3 := vFR x2 i 5 (mm 5)
    let x4 := s_X0_finishIfComplete x3 i j
    x4
  else
    if (mm 0) = nI 6 then
      let x5 := vFR v i 3 (nI 1)
      let x6 := vFR x5 i 4 (mm 4)
      let x7 := vFR x6 i 5 (mm 5)
      let x8 := s_X0_finishIfComplete x7 i j
      x8
    else
      if (mm 0) = nI 7 then
        let x9 := vFR v i 6 ((v.x.FR i 6) + (nI 1))
        let x10 := s_X0_finishIfComplete x9 i j
        x10
      else
        if (mm 0) = nI 8 then
          let x11 := s_X0_passOn v i j mm
          x11
        else
          if (mm 0) = nI 9 then
            let x12 := s_X0_passOn v i j mm
            x12
          else
            if (mm 0) = nI 10 then
              if (v.x.AC i 0 j) = (nI 1) then
                let x14 := s_X0_drop v i j
                let x15 := vsend x14 (mkM (nI 7) (nI j) (nI i) (mm 6))
                x15
              else
                let x13 := vsend v (mkM (nI 7) (nI j) (nI i) (mm 6))
                x13
            else
              if (mm 0) = nI 11 then
                let x16 := vAC v i 2 (upd (v.x.AC i 2) j ((-1 : Int32)))
                let x17 := vFC x16 i 8 ((x16.x.FC i 8) - (nI 1))
                x17
              else
                v
set_option maxRecDepth 100000 in
set_option maxHeartbeats 400000 in
theorem c_X0_receive (l : Launch) (E : gE) (x : St) (v : Vw) (hs : List (Nat × M7)) (hV : VW x v [] hs) (i : Nat) (j : Nat) (am : Nat) (mm : M7) (hi : i < 4) (hj : j < 16) (hc : v.x.FC i 7 = nI (nat (v.x.FC i 7)) ∧ nat (v.x.FC i 7) ≤ 4) (hn : (v.q 16).length ≤ 63) (hm : (am, mm) ∈ hs) (hl : mm 1 = nI j) : Ct l yX0_receive wsX0_receive { frames := 9, cells := 2, slots := 103, locals := 283 } E [.ref (aC E i), .ref am] x (fun u y => u = none ∧ VW y (s_X0_receive v i j mm) [] hs) 2 103 := by
  refine Ct.of (cc := cX0_receive) (nL := 2) (ret := none) (by decide) rfl (Nat.le_of_ble_eq_true rfl) ?_
  intro p e s m args below meth c h hr hk hname
  refine g_lvs (lv' := [(0, _), (1, _)]) rfl ?_
  refine g_aload_n h 1 dX0_receive_0 rfl rfl ?_
  refine g_get (C := RX2) (T := TX2) (N := 7) h 0 (wat_Ms E _ (hV.held hm).1 (hV.held hm).2.1) rfl in_X0_receive_X2 (by decide) lk_X0_receive_92 rfl rfl dX0_receive_1 ?_
  refine g_eqi ((hV.held hm).2.2 _) ?_
  by_cases c_4_5 : (mm 0) = nI 5
  · skip
    refine g_eqi c_4_5 ?_
    refine g_tableIn h 48 dX0_receive_4 (by decide) (by decide) (off := 44) (by decide) (by decide) ?_
    refine g_aload_n h 0 dX0_receive_48 rfl rfl ?_
    refine g_get (C := RX0) (T := TX0) (N := 14) h 2 (wat_C E _ (by omega)) rfl in_X0_receive_X0 (by decide) lk_X0_receive_12 rfl rfl dX0_receive_49 ?_
    refine g_iconst (v := nI 1) h dX0_receive_52 (by decide) ?_
    refine g_put (C := RX4) (T := TX4) (N := 7) h 3 tyX4 (ws_R3 E _ (by omega) _) rfl in_X0_receive_X4 tyX4_ok nmX4 (by decide) lk_X0_receive_95 rfl rfl rfl (by decide) (by decide) (Nat.le_of_ble_eq_true rfl) dX0_receive_53 ?_
    refine g_gen hV.setFR (fun y hV => ?_)
    refine g_aload_n h 0 dX0_receive_56 rfl rfl ?_
    refine g_get (C := RX0) (T := TX0) (N := 14) h 2 (wat_C E _ (by omega)) rfl in_X0_receive_X0 (by decide) lk_X0_receive_12 rfl rfl dX0_receive_57 ?_
    refine g_aload_n h 1 dX0_receive_60 rfl rfl ?_
    refine g_get (C := RX2) (T := TX2) (N := 7) h 4 (wat_Ms E _ (hV.held hm).1 (hV.held hm).2.1) rfl in_X0_receive_X2 (by decide) lk_X0_receive_84 rfl rfl dX0_receive_61 ?_
    refine g_eqi ((hV.held hm).2.2 _) ?_
    refine g_put (C := RX4) (T := TX4) (N := 7) h 4 tyX4 (ws_R4 E _ (by omega) _) rfl in_X0_receive_X4 tyX4_ok nmX4 (by decide) lk_X0_receive_99 rfl rfl rfl rfl rfl (Nat.le_of_ble_eq_true rfl) dX0_receive_64 ?_
    refine g_gen hV.setFR (fun y hV => ?_)
    refine g_aload_n h 0 dX0_receive_67 rfl rfl ?_
    refine g_get (C := RX0) (T := TX0) (N := 14) h 2 (wat_C E _ (by omega)) rfl in_X0_receive_X0 (by decide) lk_X0_receive_12 rfl rfl dX0_receive_68 ?_
    refine g_aload_n h 1 dX0_receive_71 rfl rfl ?_
    refine g_get (C := RX2) (T := TX2) (N := 7) h 5 (wat_Ms E _ (hV.held hm).1 (hV.held hm).2.1) rfl in_X0_receive_X2 (by decide) lk_X0_receive_102 rfl rfl dX0_receive_72 ?_
    refine g_eqi ((hV.held hm).2.2 _) ?_
    refine g_put (C := RX4) (T := TX4) (N := 7) h 5 tyX4 (ws_R5 E _ (by omega) _) rfl in_X0_receive_X4 tyX4_ok nmX4 (by decide) lk_X0_receive_105 rfl rfl rfl rfl rfl (Nat.le_of_ble_eq_true rfl) dX0_receive_75 ?_
    refine g_gen hV.setFR (fun y hV => ?_)
    refine g_aload_n h 0 dX0_receive_78 rfl rfl ?_
    refine g_aload_n h 1 dX0_receive_79 rfl rfl ?_
    refine g_get (C := RX2) (T := TX2) (N := 7) h 1 (wat_Ms E _ (hV.held hm).1 (hV.held hm).2.1) rfl in_X0_receive_X2 (by decide) lk_X0_receive_108 rfl rfl dX0_receive_80 ?_
    refine g_eqi ((hV.held hm).2.2 _) ?_
    refine g_eqi (hl) ?_
    refine g_callV (As := [.int (nI j)]) (C := RX0) h 1 (c_X0_finishIfComplete l E _ _ _ hV i j (by omega) (by omega) (by simp only [vacc, St.FC_setFR]; exact hc) (by simp only [vacc, q_drop, q_markUsed, q_store, q_open, len_send, q_leave]; exact hn)) rfl gX0_receive_X0_finishIfComplete rfl rfl rfl rfl (by decide +kernel) ⟨Nat.le_of_ble_eq_true rfl, Nat.le_of_ble_eq_true rfl⟩ (wat_C E _ (by omega)) rfl rfl dX0_receive_83 ⟨by dsimp only; omega, by dsimp only; omega⟩ (Nat.le_of_ble_eq_true rfl) ?_
    rintro _ y ⟨rfl, hV⟩
    dsimp only [Option.toList, List.cons_append, List.nil_append]
    refine g_goto h 190 dX0_receive_86 (by decide) ?_
    exact g_vret h hr hk dX0_receive_190 (by omega) (by omega) ⟨rfl, hV.cast (Eq.symm (if_pos c_4_5))⟩
  by_cases c_4_6 : (mm 0) = nI 6
  · skip
    refine g_eqi c_4_6 ?_
    refine g_tableIn h 48 dX0_receive_4 (by decide) (by decide) (off := 44) (by decide) (by decide) ?_
    refine g_aload_n h 0 dX0_receive_48 rfl rfl ?_
    refine g_get (C := RX0) (T := TX0) (N := 14) h 2 (wat_C E _ (by omega)) rfl in_X0_receive_X0 (by decide) lk_X0_receive_12 rfl rfl dX0_receive_49 ?_
    refine g_iconst (v := nI 1) h dX0_receive_52 (by decide) ?_
    refine g_put (C := RX4) (T := TX4) (N := 7) h 3 tyX4 (ws_R3 E _ (by omega) _) rfl in_X0_receive_X4 tyX4_ok nmX4 (by decide) lk_X0_receive_95 rfl rfl rfl (by decide) (by decide) (Nat.le_of_ble_eq_true rfl) dX0_receive_53 ?_
    refine g_gen hV.setFR (fun y hV => ?_)
    refine g_aload_n h 0 dX0_receive_56 rfl rfl ?_
    refine g_get (C := RX0) (T := TX0) (N := 14) h 2 (wat_C E _ (by omega)) rfl in_X0_receive_X0 (by decide) lk_X0_receive_12 rfl rfl dX0_receive_57 ?_
    refine g_aload_n h 1 dX0_receive_60 rfl rfl ?_
    refine g_get (C := RX2) (T := TX2) (N := 7) h 4 (wat_Ms E _ (hV.held hm).1 (hV.held hm).2.1) rfl in_X0_receive_X2 (by decide) lk_X0_receive_84 rfl rfl dX0_receive_61 ?_
    refine g_eqi ((hV.held hm).2.2 _) ?_
    refine g_put (C := RX4) (T := TX4) (N := 7) h 4 tyX4 (ws_R4 E _ (by omega) _) rfl in_X0_receive_X4 tyX4_ok nmX4 (by decide) lk_X0_receive_99 rfl rfl rfl rfl rfl (Nat.le_of_ble_eq_true rfl) dX0_receive_64 ?_
    refine g_gen hV.setFR (fun y hV => ?_)
    refine g_aload_n h 0 dX0_receive_67 rfl rfl ?_
    refine g_get (C := RX0) (T := TX0) (N := 14) h 2 (wat_C E _ (by omega)) rfl in_X0_receive_X0 (by decide) lk_X0_receive_12 rfl rfl dX0_receive_68 ?_
    refine g_aload_n h 1 dX0_receive_71 rfl rfl ?_
    refine g_get (C := RX2) (T := TX2) (N := 7) h 5 (wat_Ms E _ (hV.held hm).1 (hV.held hm).2.1) rfl in_X0_receive_X2 (by decide) lk_X0_receive_102 rfl rfl dX0_receive_72 ?_
    refine g_eqi ((hV.held hm).2.2 _) ?_
    refine g_put (C := RX4) (T := TX4) (N := 7) h 5 tyX4 (ws_R5 E _ (by omega) _) rfl in_X0_receive_X4 tyX4_ok nmX4 (by decide) lk_X0_receive_105 rfl rfl rfl rfl rfl (Nat.le_of_ble_eq_true rfl) dX0_receive_75 ?_
    refine g_gen hV.setFR (fun y hV => ?_)
    refine g_aload_n h 0 dX0_receive_78 rfl rfl ?_
    refine g_aload_n h 1 dX0_receive_79 rfl rfl ?_
    refine g_get (C := RX2) (T := TX2) (N := 7) h 1 (wat_Ms E _ (hV.held hm).1 (hV.held hm).2.1) rfl in_X0_receive_X2 (by decide) lk_X0_receive_108 rfl rfl dX0_receive_80 ?_
    refine g_eqi ((hV.held hm).2.2 _) ?_
    refine g_eqi (hl) ?_
    refine g_callV (As := [.int (nI j)]) (C := RX0) h 1 (c_X0_finishIfComplete l E _ _ _ hV i j (by omega) (by omega) (by simp only [vacc, St.FC_setFR]; exact hc) (by simp only [vacc, q_drop, q_markUsed, q_store, q_open, len_send, q_leave]; exact hn)) rfl gX0_receive_X0_finishIfComplete rfl rfl rfl rfl (by decide +kernel) ⟨Nat.le_of_ble_eq_true rfl, Nat.le_of_ble_eq_true rfl⟩ (wat_C E _ (by omega)) rfl rfl dX0_receive_83 ⟨by dsimp only; omega, by dsimp only; omega⟩ (Nat.le_of_ble_eq_true rfl) ?_
    rintro _ y ⟨rfl, hV⟩
    dsimp only [Option.toList, List.cons_append, List.nil_append]
    refine g_goto h 190 dX0_receive_86 (by decide) ?_
    exact g_vret h hr hk dX0_receive_190 (by omega) (by omega) ⟨rfl, hV.cast (Eq.symm (Eq.trans (if_neg c_4_5) (if_pos c_4_6)))⟩
  by_cases c_4_7 : (mm 0) = nI 7
  · skip
    refine g_eqi c_4_7 ?_
    refine g_tableIn h 89 dX0_receive_4 (by decide) (by decide) (off := 85) (by decide) (by decide) ?_
    refine g_aload_n h 0 dX0_receive_89 rfl rfl ?_
    refine g_get (C := RX0) (T := TX0) (N := 14) h 2 (wat_C E _ (by omega)) rfl in_X0_receive_X0 (by decide) lk_X0_receive_12 rfl rfl dX0_receive_90 ?_
    refine g_dup h dX0_receive_93 rfl ?_
    refine g_get (C := RX4) (T := TX4) (N := 7) h 6 (wat_R E _ (by omega)) rfl in_X0_receive_X4 (by decide) lk_X0_receive_112 rfl rfl dX0_receive_94 ?_
    refine g_eqi (hV.FR _ _) ?_
    refine g_iconst (v := nI 1) h dX0_receive_97 (by decide) ?_
    refine g_iadd h dX0_receive_98 ?_
    refine g_put (C := RX4) (T := TX4) (N := 7) h 6 tyX4 (ws_R6 E _ (by omega) _) rfl in_X0_receive_X4 tyX4_ok nmX4 (by decide) lk_X0_receive_112 rfl rfl rfl rfl rfl (Nat.le_of_ble_eq_true rfl) dX0_receive_99 ?_
    refine g_gen hV.setFR (fun y hV => ?_)
    refine g_aload_n h 0 dX0_receive_102 rfl rfl ?_
    refine g_aload_n h 1 dX0_receive_103 rfl rfl ?_
    refine g_get (C := RX2) (T := TX2) (N := 7) h 1 (wat_Ms E _ (hV.held hm).1 (hV.held hm).2.1) rfl in_X0_receive_X2 (by decide) lk_X0_receive_108 rfl rfl dX0_receive_104 ?_
    refine g_eqi ((hV.held hm).2.2 _) ?_
    refine g_eqi (hl) ?_
    refine g_callV (As := [.int (nI j)]) (C := RX0) h 1 (c_X0_finishIfComplete l E _ _ _ hV i j (by omega) (by omega) (by simp only [vacc, St.FC_setFR]; exact hc) (by simp only [vacc, q_drop, q_markUsed, q_store, q_open, len_send, q_leave]; exact hn)) rfl gX0_receive_X0_finishIfComplete rfl rfl rfl rfl (by decide +kernel) ⟨Nat.le_of_ble_eq_true rfl, Nat.le_of_ble_eq_true rfl⟩ (wat_C E _ (by omega)) rfl rfl dX0_receive_107 ⟨by dsimp only; omega, by dsimp only; omega⟩ (Nat.le_of_ble_eq_true rfl) ?_
    rintro _ y ⟨rfl, hV⟩
    dsimp only [Option.toList, List.cons_append, List.nil_append]
    refine g_goto h 190 dX0_receive_110 (by decide) ?_
    exact g_vret h hr hk dX0_receive_190 (by omega) (by omega) ⟨rfl, hV.cast (Eq.symm (Eq.trans (if_neg c_4_5) (Eq.trans (if_neg c_4_6) (if_pos c_4_7))))⟩
  by_cases c_4_8 : (mm 0) = nI 8
  · skip
    refine g_eqi c_4_8 ?_
    refine g_tableIn h 113 dX0_receive_4 (by decide) (by decide) (off := 109) (by decide) (by decide) ?_
    refine g_aload_n h 0 dX0_receive_113 rfl rfl ?_
    refine g_aload_n h 1 dX0_receive_114 rfl rfl ?_
    refine g_callV (As := [.ref am]) (C := RX0) h 1 (c_X0_passOn l E _ _ _ hV i j am mm hi hj hc hn hm hl) rfl gX0_receive_X0_passOn rfl rfl rfl rfl (by decide +kernel) ⟨Nat.le_of_ble_eq_true rfl, Nat.le_of_ble_eq_true rfl⟩ (wat_C E _ (by omega)) rfl rfl dX0_receive_115 ⟨by dsimp only; omega, by dsimp only; omega⟩ (Nat.le_of_ble_eq_true rfl) ?_
    rintro _ y ⟨rfl, hV⟩
    dsimp only [Option.toList, List.cons_append, List.nil_append]
    refine g_goto h 190 dX0_receive_118 (by decide) ?_
    exact g_vret h hr hk dX0_receive_190 (by omega) (by omega) ⟨rfl, hV.cast (Eq.symm (Eq.trans (if_neg c_4_5) (Eq.trans (if_neg c_4_6) (Eq.trans (if_neg c_4_7) (if_pos c_4_8)))))⟩
  by_cases c_4_9 : (mm 0) = nI 9
  · skip
    refine g_eqi c_4_9 ?_
    refine g_tableIn h 113 dX0_receive_4 (by decide) (by decide) (off := 109) (by decide) (by decide) ?_
    refine g_aload_n h 0 dX0_receive_113 rfl rfl ?_
    refine g_aload_n h 1 dX0_receive_114 rfl rfl ?_
    refine g_callV (As := [.ref am]) (C := RX0) h 1 (c_X0_passOn l E _ _ _ hV i j am mm hi hj hc hn hm hl) rfl gX0_receive_X0_passOn rfl rfl rfl rfl (by decide +kernel) ⟨Nat.le_of_ble_eq_true rfl, Nat.le_of_ble_eq_true rfl⟩ (wat_C E _ (by omega)) rfl rfl dX0_receive_115 ⟨by dsimp only; omega, by dsimp only; omega⟩ (Nat.le_of_ble_eq_true rfl) ?_
    rintro _ y ⟨rfl, hV⟩
    dsimp only [Option.toList, List.cons_append, List.nil_append]
    refine g_goto h 190 dX0_receive_118 (by decide) ?_
    exact g_vret h hr hk dX0_receive_190 (by omega) (by omega) ⟨rfl, hV.cast (Eq.symm (Eq.trans (if_neg c_4_5) (Eq.trans (if_neg c_4_6) (Eq.trans (if_neg c_4_7) (Eq.trans (if_neg c_4_8) (if_pos c_4_9))))))⟩
  by_cases c_4_10 : (mm 0) = nI 10
  · skip
    refine g_eqi c_4_10 ?_
    refine g_tableIn h 121 dX0_receive_4 (by decide) (by decide) (off := 117) (by decide) (by decide) ?_
    refine g_aload_n h 0 dX0_receive_121 rfl rfl ?_
    refine g_get (C := RX0) (T := TX0) (N := 14) h 3 (wat_C E _ (by omega)) rfl in_X0_receive_X0 (by decide) lk_X0_receive_18 rfl rfl dX0_receive_122 ?_
    refine g_aload_n h 1 dX0_receive_125 rfl rfl ?_
    refine g_get (C := RX2) (T := TX2) (N := 7) h 1 (wat_Ms E _ (hV.held hm).1 (hV.held hm).2.1) rfl in_X0_receive_X2 (by decide) lk_X0_receive_108 rfl rfl dX0_receive_126 ?_
    refine g_eqi ((hV.held hm).2.2 _) ?_
    refine g_eqi (hl) ?_
    refine g_iald (n := 16) h (wat_A16 E _ (by omega) (by decide)) (by omega) (by decide) dX0_receive_129 ?_
    refine g_eqi (hV.AC _ _ _) ?_
    refine g_iconst (v := nI 1) h dX0_receive_130 (by decide) ?_
    refine g_icmp_ne h 142 dX0_receive_131 (by decide) (fun c_131 => ?_) (fun c_131 => ?_)
    · skip
      refine g_aload_n h 0 dX0_receive_142 rfl rfl ?_
      refine g_get (C := RX0) (T := TX0) (N := 14) h 1 (wat_C E _ (by omega)) rfl in_X0_receive_X0 (by decide) lk_X0_receive_56 rfl rfl dX0_receive_143 ?_
      refine g_bipush (v := nI 7) h dX0_receive_146 (by decide) ?_
      refine g_aload_n h 1 dX0_receive_148 rfl rfl ?_
      refine g_get (C := RX2) (T := TX2) (N := 7) h 1 (wat_Ms E _ (hV.held hm).1 (hV.held hm).2.1) rfl in_X0_receive_X2 (by decide) lk_X0_receive_108 rfl rfl dX0_receive_149 ?_
      refine g_eqi ((hV.held hm).2.2 _) ?_
      refine g_eqi (hl) ?_
      refine g_aload_n h 0 dX0_receive_152 rfl rfl ?_
      refine g_get (C := RX0) (T := TX0) (N := 14) h 0 (wat_C E _ (by omega)) rfl in_X0_receive_X0 (by decide) lk_X0_receive_53 rfl rfl dX0_receive_153 ?_
      refine g_aload_n h 1 dX0_receive_156 rfl rfl ?_
      refine g_get (C := RX2) (T := TX2) (N := 7) h 6 (wat_Ms E _ (hV.held hm).1 (hV.held hm).2.1) rfl in_X0_receive_X2 (by decide) lk_X0_receive_119 rfl rfl dX0_receive_157 ?_
      refine g_eqi ((hV.held hm).2.2 _) ?_
      refine g_callV (As := [.int (nI 7), .int (nI j), .int (nI i), .int _]) (C := RX3) h 4 (c_X3_send l E _ _ _ _ _ _ _ hV (hn)) rfl gX0_receive_X3_send rfl rfl rfl rfl (by decide +kernel) ⟨Nat.le_of_ble_eq_true rfl, Nat.le_of_ble_eq_true rfl⟩ (wat_N E _) rfl rfl dX0_receive_160 ⟨by dsimp only; omega, by dsimp only; omega⟩ (Nat.le_of_ble_eq_true rfl) ?_
      rintro _ y ⟨g160, rfl, hV⟩
      dsimp only [Option.toList, List.cons_append, List.nil_append]
      refine g_pop h dX0_receive_163 rfl ?_
      have hV := hV.close
      refine g_goto h 190 dX0_receive_164 (by decide) ?_
      exact g_vret h hr hk dX0_receive_190 (by omega) (by omega) ⟨rfl, hV.cast (Eq.symm (Eq.trans (if_neg c_4_5) (Eq.trans (if_neg c_4_6) (Eq.trans (if_neg c_4_7) (Eq.trans (if_neg c_4_8) (Eq.trans (if_neg c_4_9) (Eq.trans (if_pos c_4_10) (if_neg c_131))))))))⟩
    · skip
      refine g_aload_n h 0 dX0_receive_134 rfl rfl ?_
      refine g_aload_n h 1 dX0_receive_135 rfl rfl ?_
      refine g_get (C := RX2) (T := TX2) (N := 7) h 1 (wat_Ms E _ (hV.held hm).1 (hV.held hm).2.1) rfl in_X0_receive_X2 (by decide) lk_X0_receive_108 rfl rfl dX0_receive_136 ?_
      refine g_eqi ((hV.held hm).2.2 _) ?_
      refine g_eqi (hl) ?_
      refine g_callV (As := [.int (nI j)]) (C := RX0) h 1 (c_X0_drop l E _ _ _ _ hV i j (by omega) (by omega) hc) rfl gX0_receive_X0_drop rfl rfl rfl rfl (by decide +kernel) ⟨Nat.le_of_ble_eq_true rfl, Nat.le_of_ble_eq_true rfl⟩ (wat_C E _ (by omega)) rfl rfl dX0_receive_139 ⟨by dsimp only; omega, by dsimp only; omega⟩ (Nat.le_of_ble_eq_true rfl) ?_
      rintro _ y ⟨rfl, hV⟩
      dsimp only [Option.toList, List.cons_append, List.nil_append]
      refine g_aload_n h 0 dX0_receive_142 rfl rfl ?_
      refine g_get (C := RX0) (T := TX0) (N := 14) h 1 (wat_C E _ (by omega)) rfl in_X0_receive_X0 (by decide) lk_X0_receive_56 rfl rfl dX0_receive_143 ?_
      refine g_bipush (v := nI 7) h dX0_receive_146 (by decide) ?_
      refine g_aload_n h 1 dX0_receive_148 rfl rfl ?_
      refine g_get (C := RX2) (T := TX2) (N := 7) h 1 (wat_Ms E _ (hV.held hm).1 (hV.held hm).2.1) rfl in_X0_receive_X2 (by decide) lk_X0_receive_108 rfl rfl dX0_receive_149 ?_
      refine g_eqi ((hV.held hm).2.2 _) ?_
      refine g_eqi (hl) ?_
      refine g_aload_n h 0 dX0_receive_152 rfl rfl ?_
      refine g_get (C := RX0) (T := TX0) (N := 14) h 0 (wat_C E _ (by omega)) rfl in_X0_receive_X0 (by decide) lk_X0_receive_53 rfl rfl dX0_receive_153 ?_
      refine g_aload_n h 1 dX0_receive_156 rfl rfl ?_
      refine g_get (C := RX2) (T := TX2) (N := 7) h 6 (wat_Ms E _ (hV.held hm).1 (hV.held hm).2.1) rfl in_X0_receive_X2 (by decide) lk_X0_receive_119 rfl rfl dX0_receive_157 ?_
      refine g_eqi ((hV.held hm).2.2 _) ?_
      refine g_callV (As := [.int (nI 7), .int (nI j), .int (nI i), .int _]) (C := RX3) h 4 (c_X3_send l E _ _ _ _ _ _ _ hV ((by simp only [vacc, q_drop, q_markUsed, q_store, q_open, len_send, q_leave]; exact hn))) rfl gX0_receive_X3_send rfl rfl rfl rfl (by decide +kernel) ⟨Nat.le_of_ble_eq_true rfl, Nat.le_of_ble_eq_true rfl⟩ (wat_N E _) rfl rfl dX0_receive_160 ⟨by dsimp only; omega, by dsimp only; omega⟩ (Nat.le_of_ble_eq_true rfl) ?_
      rintro _ y ⟨g160, rfl, hV⟩
      dsimp only [Option.toList, List.cons_append, List.nil_append]
      refine g_pop h dX0_receive_163 rfl ?_
      have hV := hV.close
      refine g_goto h 190 dX0_receive_164 (by decide) ?_
      exact g_vret h hr hk dX0_receive_190 (by omega) (by omega) ⟨rfl, hV.cast (Eq.symm (Eq.trans (if_neg c_4_5) (Eq.trans (if_neg c_4_6) (Eq.trans (if_neg c_4_7) (Eq.trans (if_neg c_4_8) (Eq.trans (if_neg c_4_9) (Eq.trans (if_pos c_4_10) (if_pos c_131))))))))⟩
  by_cases c_4_11 : (mm 0) = nI 11
  · skip
    refine g_eqi c_4_11 ?_
    refine g_tableIn h 167 dX0_receive_4 (by decide) (by decide) (off := 163) (by decide) (by decide) ?_
    refine g_aload_n h 0 dX0_receive_167 rfl rfl ?_
    refine g_get (C := RX0) (T := TX0) (N := 14) h 5 (wat_C E _ (by omega)) rfl in_X0_receive_X0 (by decide) lk_X0_receive_25 rfl rfl dX0_receive_168 ?_
    refine g_aload_n h 1 dX0_receive_171 rfl rfl ?_
    refine g_get (C := RX2) (T := TX2) (N := 7) h 1 (wat_Ms E _ (hV.held hm).1 (hV.held hm).2.1) rfl in_X0_receive_X2 (by decide) lk_X0_receive_108 rfl rfl dX0_receive_172 ?_
    refine g_eqi ((hV.held hm).2.2 _) ?_
    refine g_eqi (hl) ?_
    refine g_iconst (v := -1) h dX0_receive_175 (by decide) ?_
    refine g_iast (n := 16) h (ws_A16 E _ (by omega) (by decide) _) (by omega) (by decide) dX0_receive_176 ?_
    refine g_gen hV.wAC (fun y hV => ?_)
    refine g_aload_n h 0 dX0_receive_177 rfl rfl ?_
    refine g_dup h dX0_receive_178 rfl ?_
    refine g_get (C := RX0) (T := TX0) (N := 14) h 8 (wat_C E _ (by omega)) rfl in_X0_receive_X0 (by decide) lk_X0_receive_35 rfl rfl dX0_receive_179 ?_
    refine g_eqi (hV.FC _ _) ?_
    refine g_iconst (v := nI 1) h dX0_receive_182 (by decide) ?_
    refine g_isub h dX0_receive_183 ?_
    refine g_put (C := RX0) (T := TX0) (N := 14) h 8 tyX0 (ws_C8 E _ (by omega) _) rfl in_X0_receive_X0 tyX0_ok nmX0 (by decide) lk_X0_receive_35 rfl rfl rfl rfl rfl (Nat.le_of_ble_eq_true rfl) dX0_receive_184 ?_
    refine g_gen hV.setFC (fun y hV => ?_)
    refine g_goto h 190 dX0_receive_187 (by decide) ?_
    exact g_vret h hr hk dX0_receive_190 (by omega) (by omega) ⟨rfl, hV.cast (Eq.symm (Eq.trans (if_neg c_4_5) (Eq.trans (if_neg c_4_6) (Eq.trans (if_neg c_4_7) (Eq.trans (if_neg c_4_8) (Eq.trans (if_neg c_4_9) (Eq.trans (if_neg c_4_10) (if_pos c_4_11))))))))⟩
  have n_4_5 : ¬ (mm 0).toInt = 5 := lv_neT c_4_5 (by decide)
  have n_4_6 : ¬ (mm 0).toInt = 6 := lv_neT c_4_6 (by decide)
  have n_4_7 : ¬ (mm 0).toInt = 7 := lv_neT c_4_7 (by decide)
  have n_4_8 : ¬ (mm 0).toInt = 8 := lv_neT c_4_8 (by decide)
  have n_4_9 : ¬ (mm 0).toInt = 9 := lv_neT c_4_9 (by decide)
  have n_4_10 : ¬ (mm 0).toInt = 10 := lv_neT c_4_10 (by decide)
  have n_4_11 : ¬ (mm 0).toInt = 11 := lv_neT c_4_11 (by decide)
  refine g_tableOut h 190 dX0_receive_4 (by omega) (by decide) ?_
  exact g_vret h hr hk dX0_receive_190 (by omega) (by omega) ⟨rfl, hV.cast (Eq.symm (Eq.trans (if_neg c_4_5) (Eq.trans (if_neg c_4_6) (Eq.trans (if_neg c_4_7) (Eq.trans (if_neg c_4_8) (Eq.trans (if_neg c_4_9) (Eq.trans (if_neg c_4_10) (if_neg c_4_11))))))))⟩
