theorem in_X5_cacheAt_X5 : ∀ w ∈ wsX50, w ∈ wsX5_cacheAt := by decide +kernel
theorem lk_X5_cacheAt_18 : Cond.fieldLink RX5 18 "CacheDirectory" "caches" "[LCacheDirectory$Cache;" ∈ wsX5_cacheAt := by decide +kernel
set_option maxRecDepth 100000 in
set_option maxHeartbeats 400000 in
theorem c_X5_cacheAt (l : Launch) (E : gE) (x : St) (i : Nat) (hi : i < 4) : Ct l yX5_cacheAt wsX5_cacheAt { frames := 0, cells := 0, slots := 0, locals := 0 } E [.ref (aD E), .int (nI i)] x (fun u y => u = some (.ref (aC E i)) ∧ y = x) 0 0 := by
  refine Ct.of (cc := cX5_cacheAt) (nL := 2) (ret := (some (.object "CacheDirectory$Cache"))) (by decide) rfl (Nat.le_of_ble_eq_true rfl) ?_
  intro p e s m args below meth c h hr hk hname
  refine g_lvs (lv' := [(0, _), (1, _)]) rfl ?_
  refine g_iload_n h 1 dX5_cacheAt_0 rfl rfl ?_
  refine g_if_lt h 9 dX5_cacheAt_1 (by decide) (fun c_1 => absurd c_1 (nI_pos (by omega))) (fun c_1 => ?_)
  refine g_iload_n h 1 dX5_cacheAt_4 rfl rfl ?_
  refine g_iconst (v := nI 4) h dX5_cacheAt_5 (by decide) ?_
  refine g_icmp_ltN h 19 dX5_cacheAt_6 (by decide) (by omega) (by omega) (fun c_6 => ?_) (fun c_6 => absurd c_6 (by omega))
  refine g_aload_n h 0 dX5_cacheAt_19 rfl rfl ?_
  refine g_get (C := RX5) (T := TX5) (N := 3) h 1 (wat_D E _) rfl in_X5_cacheAt_X5 (by decide) lk_X5_cacheAt_18 rfl rfl dX5_cacheAt_20 ?_
  refine g_iload_n h 1 dX5_cacheAt_23 rfl rfl ?_
  refine g_qald (t0 := 2) h (wat_Cs E _) rfl (by omega) (by decide) rfl dX5_cacheAt_24 ?_
  exact g_aret h hr hk (Or.inl ⟨_, rfl⟩) (Or.inr ⟨_, rfl⟩) dX5_cacheAt_25 (by omega) (by omega) ⟨rfl, rfl⟩
set_option maxRecDepth 100000 in
set_option maxHeartbeats 400000 in
theorem c_X5_checkLine (l : Launch) (E : gE) (x : St) (j : Nat) (hj : j < 16) : Ct l yX5_checkLine wsX5_checkLine { frames := 0, cells := 0, slots := 0, locals := 0 } E [.int (nI j)] x (fun u y => u = none ∧ y = x) 0 0 := by
  refine Ct.of (cc := cX5_checkLine) (nL := 1) (ret := none) (by decide) rfl (Nat.le_of_ble_eq_true rfl) ?_
  intro p e s m args below meth c h hr hk hname
  refine g_lvs (lv' := [(0, _)]) rfl ?_
  refine g_iload_n h 0 dX5_checkLine_0 rfl rfl ?_
  refine g_if_lt h 10 dX5_checkLine_1 (by decide) (fun c_1 => absurd c_1 (nI_pos (by omega))) (fun c_1 => ?_)
  refine g_iload_n h 0 dX5_checkLine_4 rfl rfl ?_
  refine g_bipush (v := nI 16) h dX5_checkLine_5 (by decide) ?_
  refine g_icmp_ltN h 20 dX5_checkLine_7 (by decide) (by omega) (by omega) (fun c_7 => ?_) (fun c_7 => absurd c_7 (by omega))
  exact g_vret h hr hk dX5_checkLine_20 (by omega) (by omega) ⟨rfl, rfl⟩
theorem in_X5_homeOf_X5 : ∀ w ∈ wsX50, w ∈ wsX5_homeOf := by decide +kernel
theorem lk_X5_homeOf_27 : Cond.fieldLink RX5 27 "CacheDirectory" "homes" "[LCacheDirectory$Home;" ∈ wsX5_homeOf := by decide +kernel
set_option maxRecDepth 100000 in
set_option maxHeartbeats 400000 in
theorem c_X5_homeOf (l : Launch) (E : gE) (x : St) (j : Nat) (hj : j < 16) : Ct l yX5_homeOf wsX5_homeOf { frames := 1, cells := 0, slots := 0, locals := 20 } E [.ref (aD E), .int (nI j)] x (fun u y => u = some (.ref (aH E j)) ∧ y = x) 0 0 := by
  refine Ct.of (cc := cX5_homeOf) (nL := 2) (ret := (some (.object "CacheDirectory$Home"))) (by decide) rfl (Nat.le_of_ble_eq_true rfl) ?_
  intro p e s m args below meth c h hr hk hname
  refine g_lvs (lv' := [(0, _), (1, _)]) rfl ?_
  refine g_iload_n h 1 dX5_homeOf_0 rfl rfl ?_
  refine g_callS (As := [.int (nI j)]) h 1 (c_X5_checkLine l E _ j (by omega)) rfl gX5_homeOf_X5_checkLine rfl rfl rfl rfl (by decide +kernel) ⟨Nat.le_of_ble_eq_true rfl, Nat.le_of_ble_eq_true rfl⟩ dX5_homeOf_1 ⟨by dsimp only; omega, by dsimp only; omega⟩ (Nat.le_of_ble_eq_true rfl) ?_
  rintro _ _ ⟨rfl, hy⟩
  obtain rfl := hy.symm
  dsimp only [Option.toList, List.cons_append, List.nil_append]
  refine g_aload_n h 0 dX5_homeOf_4 rfl rfl ?_
  refine g_get (C := RX5) (T := TX5) (N := 3) h 2 (wat_D E _) rfl in_X5_homeOf_X5 (by decide) lk_X5_homeOf_27 rfl rfl dX5_homeOf_5 ?_
  refine g_iload_n h 1 dX5_homeOf_8 rfl rfl ?_
  refine g_qald (t0 := 3) h (wat_Hs E _) rfl (by omega) (by decide) rfl dX5_homeOf_9 ?_
  exact g_aret h hr hk (Or.inl ⟨_, rfl⟩) (Or.inr ⟨_, rfl⟩) dX5_homeOf_10 (by omega) (by omega) ⟨rfl, rfl⟩
theorem in_X5_messageAt_X3 : ∀ w ∈ wsX30, w ∈ wsX5_messageAt := by decide +kernel
theorem in_X5_messageAt_X5 : ∀ w ∈ wsX50, w ∈ wsX5_messageAt := by decide +kernel
theorem lk_X5_messageAt_10 : Cond.fieldLink RX5 10 "CacheDirectory" "network" "LCacheDirectory$Network;" ∈ wsX5_messageAt := by decide +kernel
theorem lk_X5_messageAt_162 : Cond.fieldLink RX5 162 "CacheDirectory$Network" "onTheWay" "Ljava/util/ArrayList;" ∈ wsX5_messageAt := by decide +kernel
set_option maxRecDepth 100000 in
set_option maxHeartbeats 400000 in
theorem c_X5_messageAt (l : Launch) (E : gE) (x : St) (v : Vw) (hs : List (Nat × M7)) (hV : VW x v [] hs) (k : Nat) (hkl : k < (v.q 16).length) : Ct l yX5_messageAt wsX5_messageAt { frames := 3, cells := 0, slots := 0, locals := 64 } E [.ref (aD E), .int (nI k)] x (fun u y => ∃ a, u = some (.ref a) ∧ y = x ∧ a ∈ x.PL ∧ x.PK a = true ∧ (∀ i, x.MF a i = mat v 16 k i) ∧ atL x 16 k a) 0 0 := by
  refine Ct.of (cc := cX5_messageAt) (nL := 2) (ret := (some (.object "CacheDirectory$Message"))) (by decide) rfl (Nat.le_of_ble_eq_true rfl) ?_
  intro p e s m args below meth c h hr hk hname
  refine g_lvs (lv' := [(0, _), (1, _)]) rfl ?_
  have hsz := (hV.size (j := 16) (by omega)).2
  refine g_iload_n h 1 dX5_messageAt_0 rfl rfl ?_
  refine g_if_lt h 18 dX5_messageAt_1 (by decide) (fun c_1 => absurd c_1 (nI_pos (by omega))) (fun c_1 => ?_)
  refine g_iload_n h 1 dX5_messageAt_4 rfl rfl ?_
  refine g_aload_n h 0 dX5_messageAt_5 rfl rfl ?_
  refine g_get (C := RX5) (T := TX5) (N := 3) h 0 (wat_D E _) rfl in_X5_messageAt_X5 (by decide) lk_X5_messageAt_10 rfl rfl dX5_messageAt_6 ?_
  refine g_get (C := RX3) (T := TX3) (N := 1) h 0 (wat_N E _) rfl in_X5_messageAt_X3 (by decide) lk_X5_messageAt_162 rfl rfl dX5_messageAt_9 ?_
  refine g_callV (As := []) (C := RJx4a65c) h 0 (c_Jx4a65c_size_8abf5 l E _ 16 (by omega)) rfl gX5_messageAt_Jx4a65c_size_8abf5 rfl rfl rfl rfl (by decide +kernel) ⟨Nat.le_of_ble_eq_true rfl, Nat.le_of_ble_eq_true rfl⟩ (wat_L E _ (by omega)) rfl rfl dX5_messageAt_12 ⟨by dsimp only; omega, by dsimp only; omega⟩ (Nat.le_of_ble_eq_true rfl) ?_
  rintro _ _ ⟨rfl, hy⟩
  obtain rfl := hy.symm
  have s1 := hV.size (j := 16) (by omega)
  dsimp only [Option.toList, List.cons_append, List.nil_append]
  refine g_eqi s1.1 ?_
  refine g_icmp_ltN h 28 dX5_messageAt_15 (by decide) (by omega) (by omega) (fun c_15 => ?_) (fun c_15 => absurd c_15 (by omega))
  refine g_aload_n h 0 dX5_messageAt_28 rfl rfl ?_
  refine g_get (C := RX5) (T := TX5) (N := 3) h 0 (wat_D E _) rfl in_X5_messageAt_X5 (by decide) lk_X5_messageAt_10 rfl rfl dX5_messageAt_29 ?_
  refine g_get (C := RX3) (T := TX3) (N := 1) h 0 (wat_N E _) rfl in_X5_messageAt_X3 (by decide) lk_X5_messageAt_162 rfl rfl dX5_messageAt_32 ?_
  refine g_iload_n h 1 dX5_messageAt_35 rfl rfl ?_
  refine g_callV (As := [.int (nI k)]) (C := RJx4a65c) h 1 (c_get l E _ _ _ 16 k (by omega) hV (by omega)) rfl gX5_messageAt_Jx4a65c_get_915e3 rfl rfl rfl rfl (by decide +kernel) ⟨Nat.le_of_ble_eq_true rfl, Nat.le_of_ble_eq_true rfl⟩ (wat_L E _ (by omega)) rfl rfl dX5_messageAt_36 ⟨by dsimp only; omega, by dsimp only; omega⟩ (Nat.le_of_ble_eq_true rfl) ?_
  rintro _ _ ⟨a9, rfl, hy, hm1, hm2, hm3, hm4⟩
  obtain rfl := hy.symm
  dsimp only [Option.toList, List.cons_append, List.nil_append]
  refine g_cast h (by decide +kernel) hm1 hm2 dX5_messageAt_39 ?_
  exact g_aret h hr hk (Or.inl ⟨_, rfl⟩) (Or.inr ⟨_, rfl⟩) dX5_messageAt_42 (by omega) (by omega) ⟨a9, rfl, rfl, hm1, hm2, hm3, hm4⟩
theorem in_X5_state_X0 : ∀ w ∈ wsX00, w ∈ wsX5_state := by decide +kernel
theorem lk_X5_state_89 : Cond.fieldLink RX5 89 "CacheDirectory$Cache" "states" "[I" ∈ wsX5_state := by decide +kernel
def r_X5_state (v : Vw) (i : Nat) (j : Nat) : Int32 :=
  v.x.AC i 0 j
set_option maxRecDepth 100000 in
set_option maxHeartbeats 400000 in
theorem c_X5_state (l : Launch) (E : gE) (x : St) (v : Vw) (hs : List (Nat × M7)) (hV : VW x v [] hs) (i : Nat) (j : Nat) (hi : i < 4) (hj : j < 16) : Ct l yX5_state wsX5_state { frames := 1, cells := 0, slots := 0, locals := 21 } E [.ref (aD E), .int (nI i), .int (nI j)] x (fun u y => u = some (.int (r_X5_state v i j)) ∧ y = x) 0 0 := by
  refine Ct.of (cc := cX5_state) (nL := 4) (ret := (some .int)) (by decide) rfl (Nat.le_of_ble_eq_true rfl) ?_
  intro p e s m args below meth c h hr hk hname
  refine g_lvs (lv' := [(0, _), (1, _), (2, _)]) rfl ?_
  refine g_aload_n h 0 dX5_state_0 rfl rfl ?_
  refine g_iload_n h 1 dX5_state_1 rfl rfl ?_
  refine g_callV (As := [.int (nI i)]) (C := RX5) h 1 (c_X5_cacheAt l E _ i (by omega)) rfl gX5_state_X5_cacheAt rfl rfl rfl rfl (by decide +kernel) ⟨Nat.le_of_ble_eq_true rfl, Nat.le_of_ble_eq_true rfl⟩ (wat_D E _) rfl rfl dX5_state_2 ⟨by dsimp only; omega, by dsimp only; omega⟩ (Nat.le_of_ble_eq_true rfl) ?_
  rintro _ _ ⟨rfl, hy⟩
  obtain rfl := hy.symm
  dsimp only [Option.toList, List.cons_append, List.nil_append]
  refine g_astore_n (lv' := [(0, _), (1, _), (2, _), (3, _)]) h [1, 2, 3, 0] dX5_state_5 rfl (by decide) rfl ?_
  refine g_iload_n h 2 dX5_state_6 rfl rfl ?_
  refine g_callS (As := [.int (nI j)]) h 1 (c_X5_checkLine l E _ j (by omega)) rfl gX5_state_X5_checkLine rfl rfl rfl rfl (by decide +kernel) ⟨Nat.le_of_ble_eq_true rfl, Nat.le_of_ble_eq_true rfl⟩ dX5_state_7 ⟨by dsimp only; omega, by dsimp only; omega⟩ (Nat.le_of_ble_eq_true rfl) ?_
  rintro _ _ ⟨rfl, hy⟩
  obtain rfl := hy.symm
  dsimp only [Option.toList, List.cons_append, List.nil_append]
  refine g_aload_n h 3 dX5_state_10 rfl rfl ?_
  refine g_get (C := RX0) (T := TX0) (N := 14) h 3 (wat_C E _ (by omega)) rfl in_X5_state_X0 (by decide) lk_X5_state_89 rfl rfl dX5_state_11 ?_
  refine g_iload_n h 2 dX5_state_14 rfl rfl ?_
  refine g_iald (n := 16) h (wat_A16 E _ (by omega) (by decide)) (by omega) (by decide) dX5_state_15 ?_
  refine g_eqi (hV.AC _ _ _) ?_
  exact g_iret h hr hk dX5_state_16 (by omega) (by omega) ⟨congrArg (fun z => some (Value.int z)) (Eq.symm rfl), rfl⟩
def r_X5_victimValue (v : Vw) (i : Nat) (j : Nat) : Int32 :=
  v.x.AC i 2 j
theorem in_X5_openLine_X0 : ∀ w ∈ wsX00, w ∈ wsX5_openLine := by decide +kernel
theorem in_X5_openLine_X4 : ∀ w ∈ wsX40, w ∈ wsX5_openLine := by decide +kernel
theorem lk_X5_openLine_99 : Cond.fieldLink RX5 99 "CacheDirectory$Cache" "request" "LCacheDirectory$Request;" ∈ wsX5_openLine := by decide +kernel
theorem lk_X5_openLine_103 : Cond.fieldLink RX5 103 "CacheDirectory$Request" "line" "I" ∈ wsX5_openLine := by decide +kernel
def r_X5_openLine (v : Vw) (i : Nat) : Int32 :=
  v.x.FR i 0
set_option maxRecDepth 100000 in
set_option maxHeartbeats 400000 in
theorem c_X5_openLine (l : Launch) (E : gE) (x : St) (v : Vw) (hs : List (Nat × M7)) (hV : VW x v [] hs) (i : Nat) (hi : i < 4) : Ct l yX5_openLine wsX5_openLine { frames := 1, cells := 0, slots := 0, locals := 21 } E [.ref (aD E), .int (nI i)] x (fun u y => u = some (.int (r_X5_openLine v i)) ∧ y = x) 0 0 := by
  refine Ct.of (cc := cX5_openLine) (nL := 2) (ret := (some .int)) (by decide) rfl (Nat.le_of_ble_eq_true rfl) ?_
  intro p e s m args below meth c h hr hk hname
  refine g_lvs (lv' := [(0, _), (1, _)]) rfl ?_
  refine g_aload_n h 0 dX5_openLine_0 rfl rfl ?_
  refine g_iload_n h 1 dX5_openLine_1 rfl rfl ?_
  refine g_callV (As := [.int (nI i)]) (C := RX5) h 1 (c_X5_cacheAt l E _ i (by omega)) rfl gX5_openLine_X5_cacheAt rfl rfl rfl rfl (by decide +kernel) ⟨Nat.le_of_ble_eq_true rfl, Nat.le_of_ble_eq_true rfl⟩ (wat_D E _) rfl rfl dX5_openLine_2 ⟨by dsimp only; omega, by dsimp only; omega⟩ (Nat.le_of_ble_eq_true rfl) ?_
  rintro _ _ ⟨rfl, hy⟩
  obtain rfl := hy.symm
  dsimp only [Option.toList, List.cons_append, List.nil_append]
  refine g_get (C := RX0) (T := TX0) (N := 14) h 2 (wat_C E _ (by omega)) rfl in_X5_openLine_X0 (by decide) lk_X5_openLine_99 rfl rfl dX5_openLine_5 ?_
  refine g_get (C := RX4) (T := TX4) (N := 7) h 0 (wat_R E _ (by omega)) rfl in_X5_openLine_X4 (by decide) lk_X5_openLine_103 rfl rfl dX5_openLine_8 ?_
  refine g_eqi (hV.FR _ _) ?_
  exact g_iret h hr hk dX5_openLine_11 (by omega) (by omega) ⟨congrArg (fun z => some (Value.int z)) (Eq.symm rfl), rfl⟩
theorem in_X5_latestRead_X0 : ∀ w ∈ wsX00, w ∈ wsX5_latestRead := by decide +kernel
theorem lk_X5_latestRead_121 : Cond.fieldLink RX5 121 "CacheDirectory$Cache" "latestResult" "I" ∈ wsX5_latestRead := by decide +kernel
def r_X5_latestRead (v : Vw) (i : Nat) : Int32 :=
  v.x.FC i 11
set_option maxRecDepth 100000 in
set_option maxHeartbeats 400000 in
theorem c_X5_latestRead (l : Launch) (E : gE) (x : St) (v : Vw) (hs : List (Nat × M7)) (hV : VW x v [] hs) (i : Nat) (hi : i < 4) : Ct l yX5_latestRead wsX5_latestRead { frames := 1, cells := 0, slots := 0, locals := 21 } E [.ref (aD E), .int (nI i)] x (fun u y => u = some (.int (r_X5_latestRead v i)) ∧ y = x) 0 0 := by
  refine Ct.of (cc := cX5_latestRead) (nL := 2) (ret := (some .int)) (by decide) rfl (Nat.le_of_ble_eq_true rfl) ?_
  intro p e s m args below meth c h hr hk hname
  refine g_lvs (lv' := [(0, _), (1, _)]) rfl ?_
  refine g_aload_n h 0 dX5_latestRead_0 rfl rfl ?_
  refine g_iload_n h 1 dX5_latestRead_1 rfl rfl ?_
  refine g_callV (As := [.int (nI i)]) (C := RX5) h 1 (c_X5_cacheAt l E _ i (by omega)) rfl gX5_latestRead_X5_cacheAt rfl rfl rfl rfl (by decide +kernel) ⟨Nat.le_of_ble_eq_true rfl, Nat.le_of_ble_eq_true rfl⟩ (wat_D E _) rfl rfl dX5_latestRead_2 ⟨by dsimp only; omega, by dsimp only; omega⟩ (Nat.le_of_ble_eq_true rfl) ?_
  rintro _ _ ⟨rfl, hy⟩
  obtain rfl := hy.symm
  dsimp only [Option.toList, List.cons_append, List.nil_append]
  refine g_get (C := RX0) (T := TX0) (N := 14) h 11 (wat_C E _ (by omega)) rfl in_X5_latestRead_X0 (by decide) lk_X5_latestRead_121 rfl rfl dX5_latestRead_5 ?_
  refine g_eqi (hV.FC _ _) ?_
  exact g_iret h hr hk dX5_latestRead_8 (by omega) (by omega) ⟨congrArg (fun z => some (Value.int z)) (Eq.symm rfl), rfl⟩
def r_X5_hits (v : Vw) (i : Nat) : Int32 :=
  v.x.FC i 12
def r_X5_misses (v : Vw) (i : Nat) : Int32 :=
  v.x.FC i 13
def r_X5_owner (v : Vw) (j : Nat) : Int32 :=
  v.x.FH j 4
def r_X5_sharers (v : Vw) (j : Nat) : Int32 :=
  v.x.FH j 5
def r_X5_memory (v : Vw) (j : Nat) : Int32 :=
  v.x.FH j 3
def r_X5_isBusy (v : Vw) (j : Nat) : Int32 :=
  v.x.FH j 6
def r_X5_queued (v : Vw) (j : Nat) : Nat :=
  (v.q j).length
theorem in_X5_messageCount_X3 : ∀ w ∈ wsX30, w ∈ wsX5_messageCount := by decide +kernel
theorem in_X5_messageCount_X5 : ∀ w ∈ wsX50, w ∈ wsX5_messageCount := by decide +kernel
theorem lk_X5_messageCount_10 : Cond.fieldLink RX5 10 "CacheDirectory" "network" "LCacheDirectory$Network;" ∈ wsX5_messageCount := by decide +kernel
theorem lk_X5_messageCount_162 : Cond.fieldLink RX5 162 "CacheDirectory$Network" "onTheWay" "Ljava/util/ArrayList;" ∈ wsX5_messageCount := by decide +kernel
def r_X5_messageCount (v : Vw)  : Nat :=
  (v.q 16).length
set_option maxRecDepth 100000 in
set_option maxHeartbeats 400000 in
theorem c_X5_messageCount (l : Launch) (E : gE) (x : St) (v : Vw) (hs : List (Nat × M7)) (hV : VW x v [] hs)   : Ct l yX5_messageCount wsX5_messageCount { frames := 1, cells := 0, slots := 0, locals := 20 } E [.ref (aD E)] x (fun u y => u = some (.int (nI (r_X5_messageCount v ))) ∧ y = x) 0 0 := by
  refine Ct.of (cc := cX5_messageCount) (nL := 1) (ret := (some .int)) (by decide) rfl (Nat.le_of_ble_eq_true rfl) ?_
  intro p e s m args below meth c h hr hk hname
  refine g_lvs (lv' := [(0, _)]) rfl ?_
  refine g_aload_n h 0 dX5_messageCount_0 rfl rfl ?_
  refine g_get (C := RX5) (T := TX5) (N := 3) h 0 (wat_D E _) rfl in_X5_messageCount_X5 (by decide) lk_X5_messageCount_10 rfl rfl dX5_messageCount_1 ?_
  refine g_get (C := RX3) (T := TX3) (N := 1) h 0 (wat_N E _) rfl in_X5_messageCount_X3 (by decide) lk_X5_messageCount_162 rfl rfl dX5_messageCount_4 ?_
  refine g_callV (As := []) (C := RJx4a65c) h 0 (c_Jx4a65c_size_8abf5 l E _ 16 (by omega)) rfl gX5_messageCount_Jx4a65c_size_8abf5 rfl rfl rfl rfl (by decide +kernel) ⟨Nat.le_of_ble_eq_true rfl, Nat.le_of_ble_eq_true rfl⟩ (wat_L E _ (by omega)) rfl rfl dX5_messageCount_7 ⟨by dsimp only; omega, by dsimp only; omega⟩ (Nat.le_of_ble_eq_true rfl) ?_
  rintro _ _ ⟨rfl, hy⟩
  obtain rfl := hy.symm
  have s1 := hV.size (j := 16) (by omega)
  dsimp only [Option.toList, List.cons_append, List.nil_append]
  refine g_eqi s1.1 ?_
  exact g_iret h hr hk dX5_messageCount_10 (by omega) (by omega) ⟨congrArg (fun z => some (Value.int (nI z))) (Eq.symm rfl), rfl⟩
def r_X5_messageKind (v : Vw) (k : Nat) : Int32 :=
  mat v 16 k 0
def r_X5_messageLine (v : Vw) (k : Nat) : Int32 :=
  mat v 16 k 1
def r_X5_messageFrom (v : Vw) (k : Nat) : Int32 :=
  mat v 16 k 2
def r_X5_messageTo (v : Vw) (k : Nat) : Int32 :=
  mat v 16 k 3
set_option maxRecDepth 100000 in
set_option maxHeartbeats 400000 in
theorem c_X5_checkHeld (l : Launch) (E : gE) (x : St) (v : Vw) (hs : List (Nat × M7)) (hV : VW x v [] hs) (i : Nat) (j : Nat) (hi : i < 4) (hj : j < 16) (hh : ¬ nI (r_X0_holds v i j) = 0) : Ct l yX5_checkHeld wsX5_checkHeld { frames := 1, cells := 0, slots := 0, locals := 21 } E [.ref (aC E i), .int (nI j)] x (fun u y => u = none ∧ y = x) 0 0 := by
  refine Ct.of (cc := cX5_checkHeld) (nL := 2) (ret := none) (by decide) rfl (Nat.le_of_ble_eq_true rfl) ?_
  intro p e s m args below meth c h hr hk hname
  refine g_lvs (lv' := [(0, _), (1, _)]) rfl ?_
  refine g_aload_n h 0 dX5_checkHeld_0 rfl rfl ?_
  refine g_iload_n h 1 dX5_checkHeld_1 rfl rfl ?_
  refine g_callV (As := [.int (nI j)]) (C := RX0) h 1 (c_X0_holds l E _ _ _ _ hV i j (by omega) (by omega)) rfl gX5_checkHeld_X0_holds rfl rfl rfl rfl (by decide +kernel) ⟨Nat.le_of_ble_eq_true rfl, Nat.le_of_ble_eq_true rfl⟩ (wat_C E _ (by omega)) rfl rfl dX5_checkHeld_2 ⟨by dsimp only; omega, by dsimp only; omega⟩ (Nat.le_of_ble_eq_true rfl) ?_
  rintro _ _ ⟨rfl, hy⟩
  obtain rfl := hy.symm
  dsimp only [Option.toList, List.cons_append, List.nil_append]
  refine g_if_ne h 18 dX5_checkHeld_5 (by decide) (fun c_5 => ?_) (fun c_5 => absurd c_5 (hh))
  exact g_vret h hr hk dX5_checkHeld_18 (by omega) (by omega) ⟨rfl, rfl⟩
theorem in_X5_value_X0 : ∀ w ∈ wsX00, w ∈ wsX5_value := by decide +kernel
theorem lk_X5_value_79 : Cond.fieldLink RX5 79 "CacheDirectory$Cache" "values" "[I" ∈ wsX5_value := by decide +kernel
def r_X5_value (v : Vw) (i : Nat) (j : Nat) : Int32 :=
  v.x.AC i 1 j
set_option maxRecDepth 100000 in
set_option maxHeartbeats 400000 in
theorem c_X5_value (l : Launch) (E : gE) (x : St) (v : Vw) (hs : List (Nat × M7)) (hV : VW x v [] hs) (i : Nat) (j : Nat) (hi : i < 4) (hj : j < 16) (hh : ¬ nI (r_X0_holds v i j) = 0) : Ct l yX5_value wsX5_value { frames := 2, cells := 0, slots := 0, locals := 42 } E [.ref (aD E), .int (nI i), .int (nI j)] x (fun u y => u = some (.int (r_X5_value v i j)) ∧ y = x) 0 0 := by
  refine Ct.of (cc := cX5_value) (nL := 4) (ret := (some .int)) (by decide) rfl (Nat.le_of_ble_eq_true rfl) ?_
  intro p e s m args below meth c h hr hk hname
  refine g_lvs (lv' := [(0, _), (1, _), (2, _)]) rfl ?_
  refine g_aload_n h 0 dX5_value_0 rfl rfl ?_
  refine g_iload_n h 1 dX5_value_1 rfl rfl ?_
  refine g_callV (As := [.int (nI i)]) (C := RX5) h 1 (c_X5_cacheAt l E _ i (by omega)) rfl gX5_value_X5_cacheAt rfl rfl rfl rfl (by decide +kernel) ⟨Nat.le_of_ble_eq_true rfl, Nat.le_of_ble_eq_true rfl⟩ (wat_D E _) rfl rfl dX5_value_2 ⟨by dsimp only; omega, by dsimp only; omega⟩ (Nat.le_of_ble_eq_true rfl) ?_
  rintro _ _ ⟨rfl, hy⟩
  obtain rfl := hy.symm
  dsimp only [Option.toList, List.cons_append, List.nil_append]
  refine g_astore_n (lv' := [(0, _), (1, _), (2, _), (3, _)]) h [1, 2, 3, 0] dX5_value_5 rfl (by decide) rfl ?_
  refine g_iload_n h 2 dX5_value_6 rfl rfl ?_
  refine g_callS (As := [.int (nI j)]) h 1 (c_X5_checkLine l E _ j (by omega)) rfl gX5_value_X5_checkLine rfl rfl rfl rfl (by decide +kernel) ⟨Nat.le_of_ble_eq_true rfl, Nat.le_of_ble_eq_true rfl⟩ dX5_value_7 ⟨by dsimp only; omega, by dsimp only; omega⟩ (Nat.le_of_ble_eq_true rfl) ?_
  rintro _ _ ⟨rfl, hy⟩
  obtain rfl := hy.symm
  dsimp only [Option.toList, List.cons_append, List.nil_append]
  refine g_aload_n h 3 dX5_value_10 rfl rfl ?_
  refine g_iload_n h 2 dX5_value_11 rfl rfl ?_
  refine g_callS (As := [.ref (aC E i), .int (nI j)]) h 2 (c_X5_checkHeld l E _ _ _ hV i j hi hj hh) rfl gX5_value_X5_checkHeld rfl rfl rfl rfl (by decide +kernel) ⟨Nat.le_of_ble_eq_true rfl, Nat.le_of_ble_eq_true rfl⟩ dX5_value_12 ⟨by dsimp only; omega, by dsimp only; omega⟩ (Nat.le_of_ble_eq_true rfl) ?_
  rintro _ _ ⟨rfl, hy⟩
  obtain rfl := hy.symm
  dsimp only [Option.toList, List.cons_append, List.nil_append]
  refine g_aload_n h 3 dX5_value_15 rfl rfl ?_
  refine g_get (C := RX0) (T := TX0) (N := 14) h 4 (wat_C E _ (by omega)) rfl in_X5_value_X0 (by decide) lk_X5_value_79 rfl rfl dX5_value_16 ?_
  refine g_iload_n h 2 dX5_value_19 rfl rfl ?_
  refine g_iald (n := 16) h (wat_A16 E _ (by omega) (by decide)) (by omega) (by decide) dX5_value_20 ?_
  refine g_eqi (hV.AC _ _ _) ?_
  exact g_iret h hr hk dX5_value_21 (by omega) (by omega) ⟨congrArg (fun z => some (Value.int z)) (Eq.symm rfl), rfl⟩
def r_X5_lineAt (v : Vw) (i : Nat) (k : Nat) : Int32 :=
  v.x.AC i 3 k
theorem in_X5_checkAccess_X0 : ∀ w ∈ wsX00, w ∈ wsX5_checkAccess := by decide +kernel
theorem in_X5_checkAccess_X4 : ∀ w ∈ wsX40, w ∈ wsX5_checkAccess := by decide +kernel
theorem lk_X5_checkAccess_99 : Cond.fieldLink RX5 99 "CacheDirectory$Cache" "request" "LCacheDirectory$Request;" ∈ wsX5_checkAccess := by decide +kernel
theorem lk_X5_checkAccess_103 : Cond.fieldLink RX5 103 "CacheDirectory$Request" "line" "I" ∈ wsX5_checkAccess := by decide +kernel
theorem lk_X5_checkAccess_118 : Cond.fieldLink RX5 118 "CacheDirectory$Cache" "victimValues" "[I" ∈ wsX5_checkAccess := by decide +kernel
theorem lk_X5_checkAccess_132 : Cond.fieldLink RX5 132 "CacheDirectory$Cache" "useOrder" "[I" ∈ wsX5_checkAccess := by decide +kernel
set_option maxRecDepth 100000 in
set_option maxHeartbeats 400000 in
theorem c_X5_checkAccess (l : Launch) (E : gE) (x : St) (v : Vw) (hs : List (Nat × M7)) (hV : VW x v [] hs) (i : Nat) (j : Nat) (hi : i < 4) (hj : j < 16) (hu : v.x.AC i 3 0 = nI (nat (v.x.AC i 3 0)) ∧ nat (v.x.AC i 3 0) < 16) (ha1 : v.x.FR i 0 = -1) (ha2 : v.x.AC i 2 j = -1) (ha3 : nI (r_X0_needsWayFor v i j) = 0 ∨ nI (r_X0_lacksVictimRoomFor v i (nat (v.x.AC i 3 0))) = 0) : Ct l yX5_checkAccess wsX5_checkAccess { frames := 2, cells := 0, slots := 0, locals := 42 } E [.ref (aC E i), .int (nI j)] x (fun u y => u = none ∧ y = x) 0 0 := by
  refine Ct.of (cc := cX5_checkAccess) (nL := 2) (ret := none) (by decide) rfl (Nat.le_of_ble_eq_true rfl) ?_
  intro p e s m args below meth c h hr hk hname
  refine g_lvs (lv' := [(0, _), (1, _)]) rfl ?_
  have hu2 := hu.2
  refine g_aload_n h 0 dX5_checkAccess_0 rfl rfl ?_
  refine g_get (C := RX0) (T := TX0) (N := 14) h 2 (wat_C E _ (by omega)) rfl in_X5_checkAccess_X0 (by decide) lk_X5_checkAccess_99 rfl rfl dX5_checkAccess_1 ?_
  refine g_get (C := RX4) (T := TX4) (N := 7) h 0 (wat_R E _ (by omega)) rfl in_X5_checkAccess_X4 (by decide) lk_X5_checkAccess_103 rfl rfl dX5_checkAccess_4 ?_
  refine g_eqi (hV.FR _ _) ?_
  refine g_iconst (v := -1) h dX5_checkAccess_7 (by decide) ?_
  refine g_icmp_eq h 21 dX5_checkAccess_8 (by decide) (fun c_8 => ?_) (fun c_8 => absurd c_8 (fun q => q ha1))
  refine g_aload_n h 0 dX5_checkAccess_21 rfl rfl ?_
  refine g_get (C := RX0) (T := TX0) (N := 14) h 5 (wat_C E _ (by omega)) rfl in_X5_checkAccess_X0 (by decide) lk_X5_checkAccess_118 rfl rfl dX5_checkAccess_22 ?_
  refine g_iload_n h 1 dX5_checkAccess_25 rfl rfl ?_
  refine g_iald (n := 16) h (wat_A16 E _ (by omega) (by decide)) (by omega) (by decide) dX5_checkAccess_26 ?_
  refine g_eqi (hV.AC _ _ _) ?_
  refine g_iconst (v := -1) h dX5_checkAccess_27 (by decide) ?_
  refine g_icmp_eq h 41 dX5_checkAccess_28 (by decide) (fun c_28 => ?_) (fun c_28 => absurd c_28 (fun q => q ha2))
  refine g_aload_n h 0 dX5_checkAccess_41 rfl rfl ?_
  refine g_iload_n h 1 dX5_checkAccess_42 rfl rfl ?_
  refine g_callV (As := [.int (nI j)]) (C := RX0) h 1 (c_X0_needsWayFor l E _ _ _ _ hV i j (by omega) (by omega)) rfl gX5_checkAccess_X0_needsWayFor rfl rfl rfl rfl (by decide +kernel) ⟨Nat.le_of_ble_eq_true rfl, Nat.le_of_ble_eq_true rfl⟩ (wat_C E _ (by omega)) rfl rfl dX5_checkAccess_43 ⟨by dsimp only; omega, by dsimp only; omega⟩ (Nat.le_of_ble_eq_true rfl) ?_
  rintro _ _ ⟨rfl, hy⟩
  obtain rfl := hy.symm
  dsimp only [Option.toList, List.cons_append, List.nil_append]
  refine g_if_eq h 72 dX5_checkAccess_46 (by decide) (fun c_46 => ?_) (fun c_46 => ?_)
  · skip
    exact g_vret h hr hk dX5_checkAccess_72 (by omega) (by omega) ⟨rfl, rfl⟩
  · skip
    refine g_aload_n h 0 dX5_checkAccess_49 rfl rfl ?_
    refine g_aload_n h 0 dX5_checkAccess_50 rfl rfl ?_
    refine g_get (C := RX0) (T := TX0) (N := 14) h 6 (wat_C E _ (by omega)) rfl in_X5_checkAccess_X0 (by decide) lk_X5_checkAccess_132 rfl rfl dX5_checkAccess_51 ?_
    refine g_iconst (v := nI 0) h dX5_checkAccess_54 (by decide) ?_
    refine g_iald (n := 4) h (wat_A4 E _ (by omega)) (by omega) (by decide) dX5_checkAccess_55 ?_
    refine g_eqi (hV.AC _ _ _) ?_
    refine g_eqi (hu.1) ?_
    refine g_callV (As := [.int (nI (nat (v.x.AC i 3 0)))]) (C := RX0) h 1 (c_X0_lacksVictimRoomFor l E _ _ _ _ hV i (nat (v.x.AC i 3 0)) (by omega) (by omega)) rfl gX5_checkAccess_X0_lacksVictimRoomFor rfl rfl rfl rfl (by decide +kernel) ⟨Nat.le_of_ble_eq_true rfl, Nat.le_of_ble_eq_true rfl⟩ (wat_C E _ (by omega)) rfl rfl dX5_checkAccess_56 ⟨by dsimp only; omega, by dsimp only; omega⟩ (Nat.le_of_ble_eq_true rfl) ?_
    rintro _ _ ⟨rfl, hy⟩
    obtain rfl := hy.symm
    dsimp only [Option.toList, List.cons_append, List.nil_append]
    refine g_if_eq h 72 dX5_checkAccess_59 (by decide) (fun c_59 => ?_) (fun c_59 => absurd c_59 (fun q => ha3.elim (fun z => c_46 z) (fun z => q z)))
    exact g_vret h hr hk dX5_checkAccess_72 (by omega) (by omega) ⟨rfl, rfl⟩
theorem in_X5_read_X0 : ∀ w ∈ wsX00, w ∈ wsX5_read := by decide +kernel
theorem lk_X5_read_73 : Cond.fieldLink RX5 73 "CacheDirectory$Cache" "hitCount" "I" ∈ wsX5_read := by decide +kernel
theorem lk_X5_read_79 : Cond.fieldLink RX5 79 "CacheDirectory$Cache" "values" "[I" ∈ wsX5_read := by decide +kernel
def r_X5_read (v : Vw) (i : Nat) (j : Nat) : Int32 :=
  if (nI (r_X0_holds v i j)) = 0 then
    let x1 := s_X0_startRequest v i j (nI 0) ((-1 : Int32))
    (-1 : Int32)
  else
    let x2 := vFC v i 12 ((v.x.FC i 12) + (nI 1))
    let x3 := s_X0_markUsed x2 i j
    x3.x.AC i 1 j
def s_X5_read (v : Vw) (i : Nat) (j : Nat) : Vw :=
  if (nI (r_X0_holds v i j)) = 0 then
    let x1 := s_X0_startRequest v i j (nI 0) ((-1 : Int32))
    x1
  else
    let x2 := vFC v i 12 ((v.x.FC i 12) + (nI 1))
    let x3 := s_X0_markUsed x2 i j
    x3
set_option maxRecDepth 100000 in
set_option maxHeartbeats 400000 in
theorem c_X5_read (l : Launch) (E : gE) (x : St) (v : Vw) (hs : List (Nat × M7)) (hV : VW x v [] hs) (i : Nat) (j : Nat) (hi : i < 4) (hj : j < 16) (hc : v.x.FC i 7 = nI (nat (v.x.FC i 7)) ∧ nat (v.x.FC i 7) ≤ 4) (hu : v.x.AC i 3 0 = nI (nat (v.x.AC i 3 0)) ∧ nat (v.x.AC i 3 0) < 16) (ha1 : v.x.FR i 0 = -1) (ha2 : v.x.AC i 2 j = -1) (ha3 : nI (r_X0_needsWayFor v i j) = 0 ∨ nI (r_X0_lacksVictimRoomFor v i (nat (v.x.AC i 3 0))) = 0) (hn : (v.q 16).length ≤ 62) : Ct l yX5_read wsX5_read { frames := 10, cells := 4, slots := 206, locals := 304 } E [.ref (aD E), .int (nI i), .int (nI j)] x (fun u y => u = some (.int (r_X5_read v i j)) ∧ VW y (s_X5_read v i j) [] hs) 4 206 := by
  refine Ct.of (cc := cX5_read) (nL := 4) (ret := (some .int)) (by decide) rfl (Nat.le_of_ble_eq_true rfl) ?_
  intro p e s m args below meth c h hr hk hname
  refine g_lvs (lv' := [(0, _), (1, _), (2, _)]) rfl ?_
  refine g_aload_n h 0 dX5_read_0 rfl rfl ?_
  refine g_iload_n h 1 dX5_read_1 rfl rfl ?_
  refine g_callV (As := [.int (nI i)]) (C := RX5) h 1 (c_X5_cacheAt l E _ i (by omega)) rfl gX5_read_X5_cacheAt rfl rfl rfl rfl (by decide +kernel) ⟨Nat.le_of_ble_eq_true rfl, Nat.le_of_ble_eq_true rfl⟩ (wat_D E _) rfl rfl dX5_read_2 ⟨by dsimp only; omega, by dsimp only; omega⟩ (Nat.le_of_ble_eq_true rfl) ?_
  rintro _ _ ⟨rfl, hy⟩
  obtain rfl := hy.symm
  dsimp only [Option.toList, List.cons_append, List.nil_append]
  refine g_astore_n (lv' := [(0, _), (1, _), (2, _), (3, _)]) h [1, 2, 3, 0] dX5_read_5 rfl (by decide) rfl ?_
  refine g_iload_n h 2 dX5_read_6 rfl rfl ?_
  refine g_callS (As := [.int (nI j)]) h 1 (c_X5_checkLine l E _ j (by omega)) rfl gX5_read_X5_checkLine rfl rfl rfl rfl (by decide +kernel) ⟨Nat.le_of_ble_eq_true rfl, Nat.le_of_ble_eq_true rfl⟩ dX5_read_7 ⟨by dsimp only; omega, by dsimp only; omega⟩ (Nat.le_of_ble_eq_true rfl) ?_
  rintro _ _ ⟨rfl, hy⟩
  obtain rfl := hy.symm
  dsimp only [Option.toList, List.cons_append, List.nil_append]
  refine g_aload_n h 3 dX5_read_10 rfl rfl ?_
  refine g_iload_n h 2 dX5_read_11 rfl rfl ?_
  refine g_callS (As := [.ref (aC E i), .int (nI j)]) h 2 (c_X5_checkAccess l E _ _ _ hV i j hi hj hu ha1 ha2 ha3) rfl gX5_read_X5_checkAccess rfl rfl rfl rfl (by decide +kernel) ⟨Nat.le_of_ble_eq_true rfl, Nat.le_of_ble_eq_true rfl⟩ dX5_read_12 ⟨by dsimp only; omega, by dsimp only; omega⟩ (Nat.le_of_ble_eq_true rfl) ?_
  rintro _ _ ⟨rfl, hy⟩
  obtain rfl := hy.symm
  dsimp only [Option.toList, List.cons_append, List.nil_append]
  refine g_aload_n h 3 dX5_read_15 rfl rfl ?_
  refine g_iload_n h 2 dX5_read_16 rfl rfl ?_
  refine g_callV (As := [.int (nI j)]) (C := RX0) h 1 (c_X0_holds l E _ _ _ _ hV i j (by omega) (by omega)) rfl gX5_read_X0_holds rfl rfl rfl rfl (by decide +kernel) ⟨Nat.le_of_ble_eq_true rfl, Nat.le_of_ble_eq_true rfl⟩ (wat_C E _ (by omega)) rfl rfl dX5_read_17 ⟨by dsimp only; omega, by dsimp only; omega⟩ (Nat.le_of_ble_eq_true rfl) ?_
  rintro _ _ ⟨rfl, hy⟩
  obtain rfl := hy.symm
  dsimp only [Option.toList, List.cons_append, List.nil_append]
  refine g_if_eq h 45 dX5_read_20 (by decide) (fun c_20 => ?_) (fun c_20 => ?_)
  · skip
    refine g_aload_n h 3 dX5_read_45 rfl rfl ?_
    refine g_iload_n h 2 dX5_read_46 rfl rfl ?_
    refine g_iconst (v := nI 0) h dX5_read_47 (by decide) ?_
    refine g_iconst (v := -1) h dX5_read_48 (by decide) ?_
    refine g_callV (As := [.int (nI j), .int (nI 0), .int _]) (C := RX0) h 3 (c_X0_startRequest l E _ _ _ hV i j (nI 0) _ (by omega) (by omega) (by decide) hc hu (by omega)) rfl gX5_read_X0_startRequest rfl rfl rfl rfl (by decide +kernel) ⟨Nat.le_of_ble_eq_true rfl, Nat.le_of_ble_eq_true rfl⟩ (wat_C E _ (by omega)) rfl rfl dX5_read_49 ⟨by dsimp only; omega, by dsimp only; omega⟩ (Nat.le_of_ble_eq_true rfl) ?_
    rintro _ y ⟨rfl, hV⟩
    dsimp only [Option.toList, List.cons_append, List.nil_append]
    refine g_iconst (v := -1) h dX5_read_52 (by decide) ?_
    exact g_iret h hr hk dX5_read_53 (by omega) (by omega) ⟨congrArg (fun z => some (Value.int z)) (Eq.symm (if_pos c_20)), hV.cast (Eq.symm (if_pos c_20))⟩
  · skip
    refine g_aload_n h 3 dX5_read_23 rfl rfl ?_
    refine g_dup h dX5_read_24 rfl ?_
    refine g_get (C := RX0) (T := TX0) (N := 14) h 12 (wat_C E _ (by omega)) rfl in_X5_read_X0 (by decide) lk_X5_read_73 rfl rfl dX5_read_25 ?_
    refine g_eqi (hV.FC _ _) ?_
    refine g_iconst (v := nI 1) h dX5_read_28 (by decide) ?_
    refine g_iadd h dX5_read_29 ?_
    refine g_put (C := RX0) (T := TX0) (N := 14) h 12 tyX0 (ws_C12 E _ (by omega) _) rfl in_X5_read_X0 tyX0_ok nmX0 (by decide) lk_X5_read_73 rfl rfl rfl rfl rfl (Nat.le_of_ble_eq_true rfl) dX5_read_30 ?_
    refine g_gen hV.setFC (fun y hV => ?_)
    refine g_aload_n h 3 dX5_read_33 rfl rfl ?_
    refine g_iload_n h 2 dX5_read_34 rfl rfl ?_
    refine g_callV (As := [.int (nI j)]) (C := RX0) h 1 (c_X0_markUsed l E _ _ _ _ hV i j (by omega) (by omega) (by simp only [vacc, St.FC_setFC, u2_ne7 (show (12 : Nat) ≠ 7 by decide)]; exact hc)) rfl gX5_read_X0_markUsed rfl rfl rfl rfl (by decide +kernel) ⟨Nat.le_of_ble_eq_true rfl, Nat.le_of_ble_eq_true rfl⟩ (wat_C E _ (by omega)) rfl rfl dX5_read_35 ⟨by dsimp only; omega, by dsimp only; omega⟩ (Nat.le_of_ble_eq_true rfl) ?_
    rintro _ y ⟨rfl, hV⟩
    dsimp only [Option.toList, List.cons_append, List.nil_append]
    refine g_aload_n h 3 dX5_read_38 rfl rfl ?_
    refine g_get (C := RX0) (T := TX0) (N := 14) h 4 (wat_C E _ (by omega)) rfl in_X5_read_X0 (by decide) lk_X5_read_79 rfl rfl dX5_read_39 ?_
    refine g_iload_n h 2 dX5_read_42 rfl rfl ?_
    refine g_iald (n := 16) h (wat_A16 E _ (by omega) (by decide)) (by omega) (by decide) dX5_read_43 ?_
    refine g_eqi (hV.AC _ _ _) ?_
    exact g_iret h hr hk dX5_read_44 (by omega) (by omega) ⟨congrArg (fun z => some (Value.int z)) (Eq.symm (if_neg c_20)), hV.cast (Eq.symm (if_neg c_20))⟩
theorem in_X5_write_X0 : ∀ w ∈ wsX00, w ∈ wsX5_write := by decide +kernel
theorem lk_X5_write_89 : Cond.fieldLink RX5 89 "CacheDirectory$Cache" "states" "[I" ∈ wsX5_write := by decide +kernel
theorem lk_X5_write_73 : Cond.fieldLink RX5 73 "CacheDirectory$Cache" "hitCount" "I" ∈ wsX5_write := by decide +kernel
def r_X5_write (v : Vw) (i : Nat) (j : Nat) (w : Nat) : Nat :=
  if (v.x.AC i 0 j) = (nI 3) then
    let x2 := vFC v i 12 ((v.x.FC i 12) + (nI 1))
    let x3 := s_X0_store x2 i j (nI 3) (nI w)
    1
  else
    let x1 := s_X0_startRequest v i j (nI 1) (nI w)
    0
def s_X5_write (v : Vw) (i : Nat) (j : Nat) (w : Nat) : Vw :=
  if (v.x.AC i 0 j) = (nI 3) then
    let x2 := vFC v i 12 ((v.x.FC i 12) + (nI 1))
    let x3 := s_X0_store x2 i j (nI 3) (nI w)
    x3
  else
    let x1 := s_X0_startRequest v i j (nI 1) (nI w)
    x1
set_option maxRecDepth 100000 in
set_option maxHeartbeats 400000 in
theorem c_X5_write (l : Launch) (E : gE) (x : St) (v : Vw) (hs : List (Nat × M7)) (hV : VW x v [] hs) (i : Nat) (j : Nat) (w : Nat) (hi : i < 4) (hj : j < 16) (hw : w ≤ 9999) (hc : v.x.FC i 7 = nI (nat (v.x.FC i 7)) ∧ nat (v.x.FC i 7) ≤ 4) (hu : v.x.AC i 3 0 = nI (nat (v.x.AC i 3 0)) ∧ nat (v.x.AC i 3 0) < 16) (ha1 : v.x.FR i 0 = -1) (ha2 : v.x.AC i 2 j = -1) (ha3 : nI (r_X0_needsWayFor v i j) = 0 ∨ nI (r_X0_lacksVictimRoomFor v i (nat (v.x.AC i 3 0))) = 0) (hn : (v.q 16).length ≤ 62) : Ct l yX5_write wsX5_write { frames := 10, cells := 4, slots := 206, locals := 304 } E [.ref (aD E), .int (nI i), .int (nI j), .int (nI w)] x (fun u y => u = some (.int (nI (r_X5_write v i j w))) ∧ VW y (s_X5_write v i j w) [] hs) 4 206 := by
  refine Ct.of (cc := cX5_write) (nL := 5) (ret := (some .boolean)) (by decide) rfl (Nat.le_of_ble_eq_true rfl) ?_
  intro p e s m args below meth c h hr hk hname
  refine g_lvs (lv' := [(0, _), (1, _), (2, _), (3, _)]) rfl ?_
  refine g_aload_n h 0 dX5_write_0 rfl rfl ?_
  refine g_iload_n h 1 dX5_write_1 rfl rfl ?_
  refine g_callV (As := [.int (nI i)]) (C := RX5) h 1 (c_X5_cacheAt l E _ i (by omega)) rfl gX5_write_X5_cacheAt rfl rfl rfl rfl (by decide +kernel) ⟨Nat.le_of_ble_eq_true rfl, Nat.le_of_ble_eq_true rfl⟩ (wat_D E _) rfl rfl dX5_write_2 ⟨by dsimp only; omega, by dsimp only; omega⟩ (Nat.le_of_ble_eq_true rfl) ?_
  rintro _ _ ⟨rfl, hy⟩
  obtain rfl := hy.symm
  dsimp only [Option.toList, List.cons_append, List.nil_append]
  refine g_astore (lv' := [(0, _), (1, _), (2, _), (3, _), (4, _)]) h [1, 2, 3, 4, 0] dX5_write_5 (by decide) rfl ?_
  refine g_iload_n h 2 dX5_write_7 rfl rfl ?_
  refine g_callS (As := [.int (nI j)]) h 1 (c_X5_checkLine l E _ j (by omega)) rfl gX5_write_X5_checkLine rfl rfl rfl rfl (by decide +kernel) ⟨Nat.le_of_ble_eq_true rfl, Nat.le_of_ble_eq_true rfl⟩ dX5_write_8 ⟨by dsimp only; omega, by dsimp only; omega⟩ (Nat.le_of_ble_eq_true rfl) ?_
  rintro _ _ ⟨rfl, hy⟩
  obtain rfl := hy.symm
  dsimp only [Option.toList, List.cons_append, List.nil_append]
  refine g_iload_n h 3 dX5_write_11 rfl rfl ?_
  refine g_if_lt h 22 dX5_write_12 (by decide) (fun c_12 => absurd c_12 (nI_pos (by omega))) (fun c_12 => ?_)
  refine g_iload_n h 3 dX5_write_15 rfl rfl ?_
  refine g_sipush (v := nI 9999) h dX5_write_16 (by decide) ?_
  refine g_icmp_leN h 32 dX5_write_19 (by decide) (by omega) (by omega) (fun c_19 => ?_) (fun c_19 => absurd c_19 (by omega))
  refine g_aload h 4 dX5_write_32 rfl ?_
  refine g_iload_n h 2 dX5_write_34 rfl rfl ?_
  refine g_callS (As := [.ref (aC E i), .int (nI j)]) h 2 (c_X5_checkAccess l E _ _ _ hV i j hi hj hu ha1 ha2 ha3) rfl gX5_write_X5_checkAccess rfl rfl rfl rfl (by decide +kernel) ⟨Nat.le_of_ble_eq_true rfl, Nat.le_of_ble_eq_true rfl⟩ dX5_write_35 ⟨by dsimp only; omega, by dsimp only; omega⟩ (Nat.le_of_ble_eq_true rfl) ?_
  rintro _ _ ⟨rfl, hy⟩
  obtain rfl := hy.symm
  dsimp only [Option.toList, List.cons_append, List.nil_append]
  refine g_aload h 4 dX5_write_38 rfl ?_
  refine g_get (C := RX0) (T := TX0) (N := 14) h 3 (wat_C E _ (by omega)) rfl in_X5_write_X0 (by decide) lk_X5_write_89 rfl rfl dX5_write_40 ?_
  refine g_iload_n h 2 dX5_write_43 rfl rfl ?_
  refine g_iald (n := 16) h (wat_A16 E _ (by omega) (by decide)) (by omega) (by decide) dX5_write_44 ?_
  refine g_eqi (hV.AC _ _ _) ?_
  refine g_iconst (v := nI 3) h dX5_write_45 (by decide) ?_
  refine g_icmp_ne h 70 dX5_write_46 (by decide) (fun c_46 => ?_) (fun c_46 => ?_)
  · skip
    refine g_aload h 4 dX5_write_70 rfl ?_
    refine g_iload_n h 2 dX5_write_72 rfl rfl ?_
    refine g_iconst (v := nI 1) h dX5_write_73 (by decide) ?_
    refine g_iload_n h 3 dX5_write_74 rfl rfl ?_
    refine g_callV (As := [.int (nI j), .int (nI 1), .int (nI w)]) (C := RX0) h 3 (c_X0_startRequest l E _ _ _ hV i j (nI 1) (nI w) (by omega) (by omega) (by decide) hc hu (by omega)) rfl gX5_write_X0_startRequest rfl rfl rfl rfl (by decide +kernel) ⟨Nat.le_of_ble_eq_true rfl, Nat.le_of_ble_eq_true rfl⟩ (wat_C E _ (by omega)) rfl rfl dX5_write_75 ⟨by dsimp only; omega, by dsimp only; omega⟩ (Nat.le_of_ble_eq_true rfl) ?_
    rintro _ y ⟨rfl, hV⟩
    dsimp only [Option.toList, List.cons_append, List.nil_append]
    refine g_iconst (v := nI 0) h dX5_write_78 (by decide) ?_
    exact g_zret h hr hk (by decide) dX5_write_79 (by omega) (by omega) ⟨congrArg (fun z => some (Value.int (nI z))) (Eq.symm (if_neg c_46)), hV.cast (Eq.symm (if_neg c_46))⟩
  · skip
    refine g_aload h 4 dX5_write_49 rfl ?_
    refine g_dup h dX5_write_51 rfl ?_
    refine g_get (C := RX0) (T := TX0) (N := 14) h 12 (wat_C E _ (by omega)) rfl in_X5_write_X0 (by decide) lk_X5_write_73 rfl rfl dX5_write_52 ?_
    refine g_eqi (hV.FC _ _) ?_
    refine g_iconst (v := nI 1) h dX5_write_55 (by decide) ?_
    refine g_iadd h dX5_write_56 ?_
    refine g_put (C := RX0) (T := TX0) (N := 14) h 12 tyX0 (ws_C12 E _ (by omega) _) rfl in_X5_write_X0 tyX0_ok nmX0 (by decide) lk_X5_write_73 rfl rfl rfl rfl rfl (Nat.le_of_ble_eq_true rfl) dX5_write_57 ?_
    refine g_gen hV.setFC (fun y hV => ?_)
    refine g_aload h 4 dX5_write_60 rfl ?_
    refine g_iload_n h 2 dX5_write_62 rfl rfl ?_
    refine g_iconst (v := nI 3) h dX5_write_63 (by decide) ?_
    refine g_iload_n h 3 dX5_write_64 rfl rfl ?_
    refine g_callV (As := [.int (nI j), .int (nI 3), .int (nI w)]) (C := RX0) h 3 (c_X0_store l E _ _ _ _ hV i j (nI 3) (nI w) (by omega) (by omega) (by simp only [vacc, St.FC_setFC, u2_ne7 (show (12 : Nat) ≠ 7 by decide)]; exact hc)) rfl gX5_write_X0_store rfl rfl rfl rfl (by decide +kernel) ⟨Nat.le_of_ble_eq_true rfl, Nat.le_of_ble_eq_true rfl⟩ (wat_C E _ (by omega)) rfl rfl dX5_write_65 ⟨by dsimp only; omega, by dsimp only; omega⟩ (Nat.le_of_ble_eq_true rfl) ?_
    rintro _ y ⟨rfl, hV⟩
    dsimp only [Option.toList, List.cons_append, List.nil_append]
    refine g_iconst (v := nI 1) h dX5_write_68 (by decide) ?_
    exact g_zret h hr hk (by decide) dX5_write_69 (by omega) (by omega) ⟨congrArg (fun z => some (Value.int (nI z))) (Eq.symm (if_pos c_46)), hV.cast (Eq.symm (if_pos c_46))⟩
theorem in_X5_evict_X0 : ∀ w ∈ wsX00, w ∈ wsX5_evict := by decide +kernel
theorem in_X5_evict_X4 : ∀ w ∈ wsX40, w ∈ wsX5_evict := by decide +kernel
theorem lk_X5_evict_99 : Cond.fieldLink RX5 99 "CacheDirectory$Cache" "request" "LCacheDirectory$Request;" ∈ wsX5_evict := by decide +kernel
theorem lk_X5_evict_103 : Cond.fieldLink RX5 103 "CacheDirectory$Request" "line" "I" ∈ wsX5_evict := by decide +kernel
theorem lk_X5_evict_89 : Cond.fieldLink RX5 89 "CacheDirectory$Cache" "states" "[I" ∈ wsX5_evict := by decide +kernel
def r_X5_evict (v : Vw) (i : Nat) (j : Nat) : Int32 :=
  let x1 := s_X0_moveOut v i j
  v.x.AC i 0 j
def s_X5_evict (v : Vw) (i : Nat) (j : Nat) : Vw :=
  let x1 := s_X0_moveOut v i j
  x1
set_option maxRecDepth 100000 in
set_option maxHeartbeats 400000 in
theorem c_X5_evict (l : Launch) (E : gE) (x : St) (v : Vw) (hs : List (Nat × M7)) (hV : VW x v [] hs) (i : Nat) (j : Nat) (hi : i < 4) (hj : j < 16) (hc : v.x.FC i 7 = nI (nat (v.x.FC i 7)) ∧ nat (v.x.FC i 7) ≤ 4) (hh : ¬ nI (r_X0_holds v i j) = 0) (he1 : ¬ v.x.FR i 0 = nI j) (he2 : nI (r_X0_lacksVictimRoomFor v i j) = 0) (hn : (v.q 16).length ≤ 62) : Ct l yX5_evict wsX5_evict { frames := 9, cells := 2, slots := 103, locals := 281 } E [.ref (aD E), .int (nI i), .int (nI j)] x (fun u y => u = some (.int (r_X5_evict v i j)) ∧ VW y (s_X5_evict v i j) [] hs) 2 103 := by
  refine Ct.of (cc := cX5_evict) (nL := 5) (ret := (some .int)) (by decide) rfl (Nat.le_of_ble_eq_true rfl) ?_
  intro p e s m args below meth c h hr hk hname
  refine g_lvs (lv' := [(0, _), (1, _), (2, _)]) rfl ?_
  refine g_aload_n h 0 dX5_evict_0 rfl rfl ?_
  refine g_iload_n h 1 dX5_evict_1 rfl rfl ?_
  refine g_callV (As := [.int (nI i)]) (C := RX5) h 1 (c_X5_cacheAt l E _ i (by omega)) rfl gX5_evict_X5_cacheAt rfl rfl rfl rfl (by decide +kernel) ⟨Nat.le_of_ble_eq_true rfl, Nat.le_of_ble_eq_true rfl⟩ (wat_D E _) rfl rfl dX5_evict_2 ⟨by dsimp only; omega, by dsimp only; omega⟩ (Nat.le_of_ble_eq_true rfl) ?_
  rintro _ _ ⟨rfl, hy⟩
  obtain rfl := hy.symm
  dsimp only [Option.toList, List.cons_append, List.nil_append]
  refine g_astore_n (lv' := [(0, _), (1, _), (2, _), (3, _)]) h [1, 2, 3, 0] dX5_evict_5 rfl (by decide) rfl ?_
  refine g_iload_n h 2 dX5_evict_6 rfl rfl ?_
  refine g_callS (As := [.int (nI j)]) h 1 (c_X5_checkLine l E _ j (by omega)) rfl gX5_evict_X5_checkLine rfl rfl rfl rfl (by decide +kernel) ⟨Nat.le_of_ble_eq_true rfl, Nat.le_of_ble_eq_true rfl⟩ dX5_evict_7 ⟨by dsimp only; omega, by dsimp only; omega⟩ (Nat.le_of_ble_eq_true rfl) ?_
  rintro _ _ ⟨rfl, hy⟩
  obtain rfl := hy.symm
  dsimp only [Option.toList, List.cons_append, List.nil_append]
  refine g_aload_n h 3 dX5_evict_10 rfl rfl ?_
  refine g_iload_n h 2 dX5_evict_11 rfl rfl ?_
  refine g_callS (As := [.ref (aC E i), .int (nI j)]) h 2 (c_X5_checkHeld l E _ _ _ hV i j hi hj hh) rfl gX5_evict_X5_checkHeld rfl rfl rfl rfl (by decide +kernel) ⟨Nat.le_of_ble_eq_true rfl, Nat.le_of_ble_eq_true rfl⟩ dX5_evict_12 ⟨by dsimp only; omega, by dsimp only; omega⟩ (Nat.le_of_ble_eq_true rfl) ?_
  rintro _ _ ⟨rfl, hy⟩
  obtain rfl := hy.symm
  dsimp only [Option.toList, List.cons_append, List.nil_append]
  refine g_aload_n h 3 dX5_evict_15 rfl rfl ?_
  refine g_get (C := RX0) (T := TX0) (N := 14) h 2 (wat_C E _ (by omega)) rfl in_X5_evict_X0 (by decide) lk_X5_evict_99 rfl rfl dX5_evict_16 ?_
  refine g_get (C := RX4) (T := TX4) (N := 7) h 0 (wat_R E _ (by omega)) rfl in_X5_evict_X4 (by decide) lk_X5_evict_103 rfl rfl dX5_evict_19 ?_
  refine g_eqi (hV.FR _ _) ?_
  refine g_iload_n h 2 dX5_evict_22 rfl rfl ?_
  refine g_icmp_ne h 36 dX5_evict_23 (by decide) (fun c_23 => ?_) (fun c_23 => absurd c_23 (he1))
  refine g_aload_n h 3 dX5_evict_36 rfl rfl ?_
  refine g_iload_n h 2 dX5_evict_37 rfl rfl ?_
  refine g_callV (As := [.int (nI j)]) (C := RX0) h 1 (c_X0_lacksVictimRoomFor l E _ _ _ _ hV i j (by omega) (by omega)) rfl gX5_evict_X0_lacksVictimRoomFor rfl rfl rfl rfl (by decide +kernel) ⟨Nat.le_of_ble_eq_true rfl, Nat.le_of_ble_eq_true rfl⟩ (wat_C E _ (by omega)) rfl rfl dX5_evict_38 ⟨by dsimp only; omega, by dsimp only; omega⟩ (Nat.le_of_ble_eq_true rfl) ?_
  rintro _ _ ⟨rfl, hy⟩
  obtain rfl := hy.symm
  dsimp only [Option.toList, List.cons_append, List.nil_append]
  refine g_if_eq h 54 dX5_evict_41 (by decide) (fun c_41 => ?_) (fun c_41 => absurd c_41 (fun q => q he2))
  refine g_aload_n h 3 dX5_evict_54 rfl rfl ?_
  refine g_get (C := RX0) (T := TX0) (N := 14) h 3 (wat_C E _ (by omega)) rfl in_X5_evict_X0 (by decide) lk_X5_evict_89 rfl rfl dX5_evict_55 ?_
  refine g_iload_n h 2 dX5_evict_58 rfl rfl ?_
  refine g_iald (n := 16) h (wat_A16 E _ (by omega) (by decide)) (by omega) (by decide) dX5_evict_59 ?_
  refine g_eqi (hV.AC _ _ _) ?_
  refine g_istore (lv' := [(0, _), (1, _), (2, _), (3, _), (4, _)]) h [1, 2, 3, 4, 0] dX5_evict_60 (by decide) rfl ?_
  refine g_aload_n h 3 dX5_evict_62 rfl rfl ?_
  refine g_iload_n h 2 dX5_evict_63 rfl rfl ?_
  refine g_callV (As := [.int (nI j)]) (C := RX0) h 1 (c_X0_moveOut l E _ _ _ hV i j (by omega) (by omega) hc (by omega)) rfl gX5_evict_X0_moveOut rfl rfl rfl rfl (by decide +kernel) ⟨Nat.le_of_ble_eq_true rfl, Nat.le_of_ble_eq_true rfl⟩ (wat_C E _ (by omega)) rfl rfl dX5_evict_64 ⟨by dsimp only; omega, by dsimp only; omega⟩ (Nat.le_of_ble_eq_true rfl) ?_
  rintro _ y ⟨rfl, hV⟩
  dsimp only [Option.toList, List.cons_append, List.nil_append]
  refine g_iload h 4 dX5_evict_67 rfl ?_
  exact g_iret h hr hk dX5_evict_69 (by omega) (by omega) ⟨congrArg (fun z => some (Value.int z)) (Eq.symm rfl), hV.cast (Eq.symm rfl)⟩
theorem in_X5_setRoom_X0 : ∀ w ∈ wsX00, w ∈ wsX5_setRoom := by decide +kernel
theorem lk_X5_setRoom_54 : Cond.fieldLink RX5 54 "CacheDirectory$Cache" "ways" "I" ∈ wsX5_setRoom := by decide +kernel
theorem lk_X5_setRoom_58 : Cond.fieldLink RX5 58 "CacheDirectory$Cache" "victimRoom" "I" ∈ wsX5_setRoom := by decide +kernel
def r_X5_setRoom (v : Vw) (i : Nat) (w : Nat) (b : Nat) : Nat :=
  if (v.x.FC i 9) = (nI w) then
    if (v.x.FC i 10) = (nI b) then
      let x3 := vFC v i 9 (nI w)
      let x4 := vFC x3 i 10 (nI b)
      0
    else
      let x5 := vFC v i 9 (nI w)
      let x6 := vFC x5 i 10 (nI b)
      1
  else
    let x1 := vFC v i 9 (nI w)
    let x2 := vFC x1 i 10 (nI b)
    1
def s_X5_setRoom (v : Vw) (i : Nat) (w : Nat) (b : Nat) : Vw :=
  if (v.x.FC i 9) = (nI w) then
    if (v.x.FC i 10) = (nI b) then
      let x3 := vFC v i 9 (nI w)
      let x4 := vFC x3 i 10 (nI b)
      x4
    else
      let x5 := vFC v i 9 (nI w)
      let x6 := vFC x5 i 10 (nI b)
      x6
  else
    let x1 := vFC v i 9 (nI w)
    let x2 := vFC x1 i 10 (nI b)
    x2
set_option maxRecDepth 100000 in
set_option maxHeartbeats 400000 in
theorem c_X5_setRoom (l : Launch) (E : gE) (x : St) (v : Vw) (hs : List (Nat × M7)) (hV : VW x v [] hs) (i : Nat) (w : Nat) (b : Nat) (hi : i < 4) (hw1 : 1 ≤ w) (hw : w ≤ 4) (hb : b ≤ 2) (hin : nI (r_X0_isInUse v i) = 0) : Ct l yX5_setRoom wsX5_setRoom { frames := 1, cells := 0, slots := 0, locals := 21 } E [.ref (aD E), .int (nI i), .int (nI w), .int (nI b)] x (fun u y => u = some (.int (nI (r_X5_setRoom v i w b))) ∧ VW y (s_X5_setRoom v i w b) [] hs) 0 0 := by
  refine Ct.of (cc := cX5_setRoom) (nL := 6) (ret := (some .boolean)) (by decide) rfl (Nat.le_of_ble_eq_true rfl) ?_
  intro p e s m args below meth c h hr hk hname
  refine g_lvs (lv' := [(0, _), (1, _), (2, _), (3, _)]) rfl ?_
  refine g_aload_n h 0 dX5_setRoom_0 rfl rfl ?_
  refine g_iload_n h 1 dX5_setRoom_1 rfl rfl ?_
  refine g_callV (As := [.int (nI i)]) (C := RX5) h 1 (c_X5_cacheAt l E _ i (by omega)) rfl gX5_setRoom_X5_cacheAt rfl rfl rfl rfl (by decide +kernel) ⟨Nat.le_of_ble_eq_true rfl, Nat.le_of_ble_eq_true rfl⟩ (wat_D E _) rfl rfl dX5_setRoom_2 ⟨by dsimp only; omega, by dsimp only; omega⟩ (Nat.le_of_ble_eq_true rfl) ?_
  rintro _ _ ⟨rfl, hy⟩
  obtain rfl := hy.symm
  dsimp only [Option.toList, List.cons_append, List.nil_append]
  refine g_astore (lv' := [(0, _), (1, _), (2, _), (3, _), (4, _)]) h [1, 2, 3, 4, 0] dX5_setRoom_5 (by decide) rfl ?_
  refine g_iload_n h 2 dX5_setRoom_7 rfl rfl ?_
  refine g_iconst (v := nI 1) h dX5_setRoom_8 (by decide) ?_
  refine g_icmp_ltN h 17 dX5_setRoom_9 (by decide) (by omega) (by omega) (fun c_9 => absurd c_9 (by omega)) (fun c_9 => ?_)
  refine g_iload_n h 2 dX5_setRoom_12 rfl rfl ?_
  refine g_iconst (v := nI 4) h dX5_setRoom_13 (by decide) ?_
  refine g_icmp_leN h 27 dX5_setRoom_14 (by decide) (by omega) (by omega) (fun c_14 => ?_) (fun c_14 => absurd c_14 (by omega))
  refine g_iload_n h 3 dX5_setRoom_27 rfl rfl ?_
  refine g_if_lt h 36 dX5_setRoom_28 (by decide) (fun c_28 => absurd c_28 (nI_pos (by omega))) (fun c_28 => ?_)
  refine g_iload_n h 3 dX5_setRoom_31 rfl rfl ?_
  refine g_iconst (v := nI 2) h dX5_setRoom_32 (by decide) ?_
  refine g_icmp_leN h 46 dX5_setRoom_33 (by decide) (by omega) (by omega) (fun c_33 => ?_) (fun c_33 => absurd c_33 (by omega))
  refine g_aload h 4 dX5_setRoom_46 rfl ?_
  refine g_callV (As := []) (C := RX0) h 0 (c_X0_isInUse l E _ _ _ _ hV i (by omega)) rfl gX5_setRoom_X0_isInUse rfl rfl rfl rfl (by decide +kernel) ⟨Nat.le_of_ble_eq_true rfl, Nat.le_of_ble_eq_true rfl⟩ (wat_C E _ (by omega)) rfl rfl dX5_setRoom_48 ⟨by dsimp only; omega, by dsimp only; omega⟩ (Nat.le_of_ble_eq_true rfl) ?_
  rintro _ _ ⟨rfl, hy⟩
  obtain rfl := hy.symm
  dsimp only [Option.toList, List.cons_append, List.nil_append]
  refine g_if_eq h 64 dX5_setRoom_51 (by decide) (fun c_51 => ?_) (fun c_51 => absurd c_51 (fun q => q hin))
  refine g_aload h 4 dX5_setRoom_64 rfl ?_
  refine g_get (C := RX0) (T := TX0) (N := 14) h 9 (wat_C E _ (by omega)) rfl in_X5_setRoom_X0 (by decide) lk_X5_setRoom_54 rfl rfl dX5_setRoom_66 ?_
  refine g_eqi (hV.FC _ _) ?_
  refine g_iload_n h 2 dX5_setRoom_69 rfl rfl ?_
  refine g_icmp_ne h 82 dX5_setRoom_70 (by decide) (fun c_70 => ?_) (fun c_70 => ?_)
  · skip
    refine g_iconst (v := nI 1) h dX5_setRoom_82 (by decide) ?_
    refine g_goto h 87 dX5_setRoom_83 (by decide) ?_
    refine g_istore (lv' := [(0, _), (1, _), (2, _), (3, _), (4, _), (5, _)]) h [1, 2, 3, 4, 5, 0] dX5_setRoom_87 (by decide) rfl ?_
    refine g_aload h 4 dX5_setRoom_89 rfl ?_
    refine g_iload_n h 2 dX5_setRoom_91 rfl rfl ?_
    refine g_put (C := RX0) (T := TX0) (N := 14) h 9 tyX0 (ws_C9 E _ (by omega) _) rfl in_X5_setRoom_X0 tyX0_ok nmX0 (by decide) lk_X5_setRoom_54 rfl rfl rfl rfl rfl (Nat.le_of_ble_eq_true rfl) dX5_setRoom_92 ?_
    refine g_gen hV.setFC (fun y hV => ?_)
    refine g_aload h 4 dX5_setRoom_95 rfl ?_
    refine g_iload_n h 3 dX5_setRoom_97 rfl rfl ?_
    refine g_put (C := RX0) (T := TX0) (N := 14) h 10 tyX0 (ws_C10 E _ (by omega) _) rfl in_X5_setRoom_X0 tyX0_ok nmX0 (by decide) lk_X5_setRoom_58 rfl rfl rfl rfl rfl (Nat.le_of_ble_eq_true rfl) dX5_setRoom_98 ?_
    refine g_gen hV.setFC (fun y hV => ?_)
    refine g_iload h 5 dX5_setRoom_101 rfl ?_
    exact g_zret h hr hk (by decide) dX5_setRoom_103 (by omega) (by omega) ⟨congrArg (fun z => some (Value.int (nI z))) (Eq.symm (if_neg c_70)), hV.cast (Eq.symm (if_neg c_70))⟩
  · skip
    refine g_aload h 4 dX5_setRoom_73 rfl ?_
    refine g_get (C := RX0) (T := TX0) (N := 14) h 10 (wat_C E _ (by omega)) rfl in_X5_setRoom_X0 (by decide) lk_X5_setRoom_58 rfl rfl dX5_setRoom_75 ?_
    refine g_eqi (hV.FC _ _) ?_
    refine g_iload_n h 3 dX5_setRoom_78 rfl rfl ?_
    refine g_icmp_eq h 86 dX5_setRoom_79 (by decide) (fun c_79 => ?_) (fun c_79 => ?_)
    · skip
      refine g_iconst (v := nI 0) h dX5_setRoom_86 (by decide) ?_
      refine g_istore (lv' := [(0, _), (1, _), (2, _), (3, _), (4, _), (5, _)]) h [1, 2, 3, 4, 5, 0] dX5_setRoom_87 (by decide) rfl ?_
      refine g_aload h 4 dX5_setRoom_89 rfl ?_
      refine g_iload_n h 2 dX5_setRoom_91 rfl rfl ?_
      refine g_put (C := RX0) (T := TX0) (N := 14) h 9 tyX0 (ws_C9 E _ (by omega) _) rfl in_X5_setRoom_X0 tyX0_ok nmX0 (by decide) lk_X5_setRoom_54 rfl rfl rfl rfl rfl (Nat.le_of_ble_eq_true rfl) dX5_setRoom_92 ?_
      refine g_gen hV.setFC (fun y hV => ?_)
      refine g_aload h 4 dX5_setRoom_95 rfl ?_
      refine g_iload_n h 3 dX5_setRoom_97 rfl rfl ?_
      refine g_put (C := RX0) (T := TX0) (N := 14) h 10 tyX0 (ws_C10 E _ (by omega) _) rfl in_X5_setRoom_X0 tyX0_ok nmX0 (by decide) lk_X5_setRoom_58 rfl rfl rfl rfl rfl (Nat.le_of_ble_eq_true rfl) dX5_setRoom_98 ?_
      refine g_gen hV.setFC (fun y hV => ?_)
      refine g_iload h 5 dX5_setRoom_101 rfl ?_
      exact g_zret h hr hk (by decide) dX5_setRoom_103 (by omega) (by omega) ⟨congrArg (fun z => some (Value.int (nI z))) (Eq.symm (Eq.trans (if_pos c_70) (if_pos c_79))), hV.cast (Eq.symm (Eq.trans (if_pos c_70) (if_pos c_79)))⟩
    · skip
      refine g_iconst (v := nI 1) h dX5_setRoom_82 (by decide) ?_
      refine g_goto h 87 dX5_setRoom_83 (by decide) ?_
      refine g_istore (lv' := [(0, _), (1, _), (2, _), (3, _), (4, _), (5, _)]) h [1, 2, 3, 4, 5, 0] dX5_setRoom_87 (by decide) rfl ?_
      refine g_aload h 4 dX5_setRoom_89 rfl ?_
      refine g_iload_n h 2 dX5_setRoom_91 rfl rfl ?_
      refine g_put (C := RX0) (T := TX0) (N := 14) h 9 tyX0 (ws_C9 E _ (by omega) _) rfl in_X5_setRoom_X0 tyX0_ok nmX0 (by decide) lk_X5_setRoom_54 rfl rfl rfl rfl rfl (Nat.le_of_ble_eq_true rfl) dX5_setRoom_92 ?_
      refine g_gen hV.setFC (fun y hV => ?_)
      refine g_aload h 4 dX5_setRoom_95 rfl ?_
      refine g_iload_n h 3 dX5_setRoom_97 rfl rfl ?_
      refine g_put (C := RX0) (T := TX0) (N := 14) h 10 tyX0 (ws_C10 E _ (by omega) _) rfl in_X5_setRoom_X0 tyX0_ok nmX0 (by decide) lk_X5_setRoom_58 rfl rfl rfl rfl rfl (Nat.le_of_ble_eq_true rfl) dX5_setRoom_98 ?_
      refine g_gen hV.setFC (fun y hV => ?_)
      refine g_iload h 5 dX5_setRoom_101 rfl ?_
      exact g_zret h hr hk (by decide) dX5_setRoom_103 (by omega) (by omega) ⟨congrArg (fun z => some (Value.int (nI z))) (Eq.symm (Eq.trans (if_pos c_70) (if_neg c_79))), hV.cast (Eq.symm (Eq.trans (if_pos c_70) (if_neg c_79)))⟩
