/-- no message has this number -/
abbrev badM (x : St) (a : Int32) : Prop := a < 0 ∨ x.FM 4 ≤ a
theorem FM4_0 (x : St) (v : Int32) : (x.setFM 0 v).FM 4 = x.FM 4 := by rw [St.FM_setFM, va_up_ne _ _ (by decide)]
theorem in_X6_isMessage_X6 : ∀ w ∈ wsX60, w ∈ wsX6_isMessage := by decide +kernel
theorem lk_X6_isMessage_94 : Cond.fieldLink RX6 94 "CacheDirectoryModel" "sent" "I" ∈ wsX6_isMessage := by decide +kernel
set_option maxRecDepth 100000 in
set_option maxHeartbeats 400000 in
theorem c_X6_isMessage_t (l : Launch) (E : gE) (x : St) (k : Nat) (hs : sOK x 0) (hkn : k < nat (x.FM 4)) : Ct l yX6_isMessage wsX6_isMessage { frames := 0, cells := 0, slots := 0, locals := 0 } E [.ref (aM E), .int (nI k)] x (fun v y => v = some (.int (nI 1)) ∧ y = x) 0 0 := by
  refine Ct.of (cc := cX6_isMessage) (nL := 2) (ret := (some .boolean)) (by decide) rfl (Nat.le_of_ble_eq_true rfl) ?_
  intro p e s m args below meth c h hr hk hname
  refine g_lvs (lv' := [(0, _), (1, _)]) rfl ?_
  have hs2 := hs.2
  refine g_iload_n h 1 dX6_isMessage_0 rfl rfl ?_
  refine g_if_lt h 16 dX6_isMessage_1 (by decide) (fun c_1 => absurd c_1 (nI_pos (by omega))) (fun c_1 => ?_)
  refine g_iload_n h 1 dX6_isMessage_4 rfl rfl ?_
  refine g_aload_n h 0 dX6_isMessage_5 rfl rfl ?_
  refine g_get (C := RX6) (T := TX6) (N := 29) h 27 (wat_M E _) rfl in_X6_isMessage_X6 (by decide) lk_X6_isMessage_94 rfl rfl dX6_isMessage_6 ?_
  refine g_eqi (hs).1 ?_
  refine g_icmp_geN h 16 dX6_isMessage_9 (by decide) (by omega) (by omega) (fun c_9 => absurd c_9 (by omega)) (fun c_9 => ?_)
  refine g_iconst (v := nI 1) h dX6_isMessage_12 (by decide) ?_
  refine g_goto h 17 dX6_isMessage_13 (by decide) ?_
  exact g_zret h hr hk (by decide) dX6_isMessage_17 (Nat.zero_le _) (Nat.zero_le _) ⟨rfl, rfl⟩
set_option maxRecDepth 100000 in
set_option maxHeartbeats 400000 in
theorem c_X6_isMessage_f (l : Launch) (E : gE) (x : St) (a : Int32) (ha : badM x a) : Ct l yX6_isMessage wsX6_isMessage { frames := 0, cells := 0, slots := 0, locals := 0 } E [.ref (aM E), .int a] x (fun v y => v = some (.int (nI 0)) ∧ y = x) 0 0 := by
  refine Ct.of (cc := cX6_isMessage) (nL := 2) (ret := (some .boolean)) (by decide) rfl (Nat.le_of_ble_eq_true rfl) ?_
  intro p e s m args below meth c h hr hk hname
  refine g_lvs (lv' := [(0, _), (1, _)]) rfl ?_
  refine g_iload_n h 1 dX6_isMessage_0 rfl rfl ?_
  refine g_if_lt h 16 dX6_isMessage_1 (by decide) (fun c_1 => ?_) (fun c_1 => ?_)
  · skip
    refine g_iconst (v := nI 0) h dX6_isMessage_16 (by decide) ?_
    exact g_zret h hr hk (by decide) dX6_isMessage_17 (Nat.zero_le _) (Nat.zero_le _) ⟨rfl, rfl⟩
  · skip
    refine g_iload_n h 1 dX6_isMessage_4 rfl rfl ?_
    refine g_aload_n h 0 dX6_isMessage_5 rfl rfl ?_
    refine g_get (C := RX6) (T := TX6) (N := 29) h 27 (wat_M E _) rfl in_X6_isMessage_X6 (by decide) lk_X6_isMessage_94 rfl rfl dX6_isMessage_6 ?_
    refine g_icmp_ge h 16 dX6_isMessage_9 (by decide) (fun c_9 => ?_) (fun c_9 => absurd c_9 (fun q => q (ha.resolve_left c_1)))
    refine g_iconst (v := nI 0) h dX6_isMessage_16 (by decide) ?_
    exact g_zret h hr hk (by decide) dX6_isMessage_17 (Nat.zero_le _) (Nat.zero_le _) ⟨rfl, rfl⟩
theorem in_X6_part_X6 : ∀ w ∈ wsX60, w ∈ wsX6_part := by decide +kernel
theorem lk_X6_part_83 : Cond.fieldLink RX6 83 "CacheDirectoryModel" "thrown" "I" ∈ wsX6_part := by decide +kernel
theorem lk_X6_part_77 : Cond.fieldLink RX6 77 "CacheDirectoryModel" "messages" "[I" ∈ wsX6_part := by decide +kernel
def r_X6_part_ok (x : St) (k : Nat) (n : Nat) : Int32 :=
  let x1 := x.setFM 0 (nI 0)
  x1.AM 22 ((7 * k) + n)
def s_X6_part_ok (x : St) (k : Nat) (n : Nat) : St :=
  let x1 := x.setFM 0 (nI 0)
  x1
set_option maxRecDepth 100000 in
set_option maxHeartbeats 400000 in
theorem c_X6_part_ok (l : Launch) (E : gE) (x : St) (k : Nat) (n : Nat) (hn : n < 7) (hs : sOK x 0) (hkn : k < nat (x.FM 4)) : Ct l yX6_part wsX6_part { frames := 1, cells := 0, slots := 0, locals := 21 } E [.ref (aM E), .int (nI k), .int (nI n)] x (fun v y => v = some (.int (r_X6_part_ok x k n)) ∧ y = s_X6_part_ok x k n) 0 0 := by
  refine Ct.of (cc := cX6_part) (nL := 3) (ret := (some .int)) (by decide) rfl (Nat.le_of_ble_eq_true rfl) ?_
  intro p e s m args below meth c h hr hk hname
  refine g_lvs (lv' := [(0, _), (1, _), (2, _)]) rfl ?_
  have hs2 := hs.2
  refine g_aload_n h 0 dX6_part_0 rfl rfl ?_
  refine g_iconst (v := nI 0) h dX6_part_1 (by decide) ?_
  refine g_put (C := RX6) (T := TX6) (N := 29) h 0 tyX6 (ws_M0 E _ _) rfl in_X6_part_X6 tyX6_ok nmX6 (by decide) lk_X6_part_83 rfl rfl rfl rfl rfl (Nat.le_of_ble_eq_true rfl) dX6_part_2 ?_
  refine g_aload_n h 0 dX6_part_5 rfl rfl ?_
  refine g_iload_n h 1 dX6_part_6 rfl rfl ?_
  refine g_callV (As := [.int (nI k)]) (C := RX6) h 1 (c_X6_isMessage_t l E _ k (sOK_FM (by decide) (sOK.mono hs (by omega))) (by rw [FM4_0]; omega)) rfl gX6_part_X6_isMessage rfl rfl rfl rfl (by decide +kernel) ⟨Nat.le_of_ble_eq_true rfl, Nat.le_of_ble_eq_true rfl⟩ (wat_M E _) rfl rfl dX6_part_7 ⟨Nat.le_refl _, Nat.le_refl _⟩ (Nat.le_of_ble_eq_true rfl) ?_
  rintro _ _ ⟨rfl, hy⟩
  obtain rfl := hy.symm
  dsimp only [Option.toList, List.cons_append, List.nil_append]
  refine g_if_eq h 27 dX6_part_10 (by decide) (fun c_10 => absurd c_10 (by decide)) (fun c_10 => ?_)
  refine g_aload_n h 0 dX6_part_13 rfl rfl ?_
  refine g_get (C := RX6) (T := TX6) (N := 29) h 26 (wat_M E _) rfl in_X6_part_X6 (by decide) lk_X6_part_77 rfl rfl dX6_part_14 ?_
  refine g_bipush (v := nI 7) h dX6_part_17 (by decide) ?_
  refine g_iload_n h 1 dX6_part_19 rfl rfl ?_
  refine g_imulN h dX6_part_20 ?_
  refine g_iload_n h 2 dX6_part_21 rfl rfl ?_
  refine g_iaddN h dX6_part_22 ?_
  refine g_iald (n := 2800) h (wat_Y E _ (i := 22) (by decide)) (by omega) (by decide) dX6_part_23 ?_
  refine g_goto h 32 dX6_part_24 (by decide) ?_
  exact g_iret h hr hk dX6_part_32 (Nat.zero_le _) (Nat.zero_le _) ⟨congrArg (fun z => some (Value.int z)) (Eq.symm rfl), Eq.symm rfl⟩
def s_X6_part_no (x : St) (a : Int32) (n : Nat) : St :=
  let x1 := x.setFM 0 (nI 0)
  let x2 := s_X6_fail x1 (nI 1)
  x2
set_option maxRecDepth 100000 in
set_option maxHeartbeats 400000 in
theorem c_X6_part_no (l : Launch) (E : gE) (x : St) (a : Int32) (n : Nat) (ha : badM x a) : Ct l yX6_part wsX6_part { frames := 1, cells := 0, slots := 0, locals := 21 } E [.ref (aM E), .int a, .int (nI n)] x (fun v y => v = some (.int (nI 0)) ∧ y = s_X6_part_no x a n) 0 0 := by
  refine Ct.of (cc := cX6_part) (nL := 3) (ret := (some .int)) (by decide) rfl (Nat.le_of_ble_eq_true rfl) ?_
  intro p e s m args below meth c h hr hk hname
  refine g_lvs (lv' := [(0, _), (1, _), (2, _)]) rfl ?_
  refine g_aload_n h 0 dX6_part_0 rfl rfl ?_
  refine g_iconst (v := nI 0) h dX6_part_1 (by decide) ?_
  refine g_put (C := RX6) (T := TX6) (N := 29) h 0 tyX6 (ws_M0 E _ _) rfl in_X6_part_X6 tyX6_ok nmX6 (by decide) lk_X6_part_83 rfl rfl rfl rfl rfl (Nat.le_of_ble_eq_true rfl) dX6_part_2 ?_
  refine g_aload_n h 0 dX6_part_5 rfl rfl ?_
  refine g_iload_n h 1 dX6_part_6 rfl rfl ?_
  refine g_callV (As := [.int _]) (C := RX6) h 1 (c_X6_isMessage_f l E _ _ (by unfold badM; rw [FM4_0]; exact ha)) rfl gX6_part_X6_isMessage rfl rfl rfl rfl (by decide +kernel) ⟨Nat.le_of_ble_eq_true rfl, Nat.le_of_ble_eq_true rfl⟩ (wat_M E _) rfl rfl dX6_part_7 ⟨Nat.le_refl _, Nat.le_refl _⟩ (Nat.le_of_ble_eq_true rfl) ?_
  rintro _ _ ⟨rfl, hy⟩
  obtain rfl := hy.symm
  dsimp only [Option.toList, List.cons_append, List.nil_append]
  refine g_if_eq h 27 dX6_part_10 (by decide) (fun c_10 => ?_) (fun c_10 => absurd c_10 (by decide))
  refine g_aload_n h 0 dX6_part_27 rfl rfl ?_
  refine g_iconst (v := nI 1) h dX6_part_28 (by decide) ?_
  refine g_callV (As := [.int (nI 1)]) (C := RX6) h 1 (c_X6_fail l E _ 1) rfl gX6_part_X6_fail rfl rfl rfl rfl (by decide +kernel) ⟨Nat.le_of_ble_eq_true rfl, Nat.le_of_ble_eq_true rfl⟩ (wat_M E _) rfl rfl dX6_part_29 ⟨Nat.le_refl _, Nat.le_refl _⟩ (Nat.le_of_ble_eq_true rfl) ?_
  rintro _ _ ⟨rfl, hy⟩
  obtain rfl := hy.symm
  dsimp only [Option.toList, List.cons_append, List.nil_append]
  exact g_iret h hr hk dX6_part_32 (Nat.zero_le _) (Nat.zero_le _) ⟨rfl, Eq.symm rfl⟩
def r_X6_messageKind_ok (x : St) (k : Nat) : Int32 :=
  let x1 := s_X6_part_ok x k 0
  r_X6_part_ok x k 0
def s_X6_messageKind_ok (x : St) (k : Nat) : St :=
  let x1 := s_X6_part_ok x k 0
  x1
set_option maxRecDepth 100000 in
set_option maxHeartbeats 400000 in
theorem c_X6_messageKind_ok (l : Launch) (E : gE) (x : St) (k : Nat) (hs : sOK x 0) (hkn : k < nat (x.FM 4)) : Ct l yX6_messageKind wsX6_messageKind { frames := 2, cells := 0, slots := 0, locals := 43 } E [.ref (aM E), .int (nI k)] x (fun v y => v = some (.int (r_X6_messageKind_ok x k)) ∧ y = s_X6_messageKind_ok x k) 0 0 := by
  refine Ct.of (cc := cX6_messageKind) (nL := 2) (ret := (some .int)) (by decide) rfl (Nat.le_of_ble_eq_true rfl) ?_
  intro p e s m args below meth c h hr hk hname
  refine g_lvs (lv' := [(0, _), (1, _)]) rfl ?_
  refine g_aload_n h 0 dX6_messageKind_0 rfl rfl ?_
  refine g_iload_n h 1 dX6_messageKind_1 rfl rfl ?_
  refine g_iconst (v := nI 0) h dX6_messageKind_2 (by decide) ?_
  refine g_callV (As := [.int (nI k), .int (nI 0)]) (C := RX6) h 2 (c_X6_part_ok l E _ k 0 (by decide) hs hkn) rfl gX6_messageKind_X6_part rfl rfl rfl rfl (by decide +kernel) ⟨Nat.le_of_ble_eq_true rfl, Nat.le_of_ble_eq_true rfl⟩ (wat_M E _) rfl rfl dX6_messageKind_3 ⟨Nat.le_refl _, Nat.le_refl _⟩ (Nat.le_of_ble_eq_true rfl) ?_
  rintro _ _ ⟨rfl, hy⟩
  obtain rfl := hy.symm
  dsimp only [Option.toList, List.cons_append, List.nil_append]
  exact g_iret h hr hk dX6_messageKind_6 (Nat.zero_le _) (Nat.zero_le _) ⟨congrArg (fun z => some (Value.int z)) (Eq.symm rfl), Eq.symm rfl⟩
def s_X6_messageKind_no (x : St) (a : Int32) : St :=
  let x1 := s_X6_part_no x a 0
  x1
set_option maxRecDepth 100000 in
set_option maxHeartbeats 400000 in
theorem c_X6_messageKind_no (l : Launch) (E : gE) (x : St) (a : Int32) (ha : badM x a) : Ct l yX6_messageKind wsX6_messageKind { frames := 2, cells := 0, slots := 0, locals := 43 } E [.ref (aM E), .int a] x (fun v y => v = some (.int (nI 0)) ∧ y = s_X6_messageKind_no x a) 0 0 := by
  refine Ct.of (cc := cX6_messageKind) (nL := 2) (ret := (some .int)) (by decide) rfl (Nat.le_of_ble_eq_true rfl) ?_
  intro p e s m args below meth c h hr hk hname
  refine g_lvs (lv' := [(0, _), (1, _)]) rfl ?_
  refine g_aload_n h 0 dX6_messageKind_0 rfl rfl ?_
  refine g_iload_n h 1 dX6_messageKind_1 rfl rfl ?_
  refine g_iconst (v := nI 0) h dX6_messageKind_2 (by decide) ?_
  refine g_callV (As := [.int _, .int (nI 0)]) (C := RX6) h 2 (c_X6_part_no l E _ _ 0 ha) rfl gX6_messageKind_X6_part rfl rfl rfl rfl (by decide +kernel) ⟨Nat.le_of_ble_eq_true rfl, Nat.le_of_ble_eq_true rfl⟩ (wat_M E _) rfl rfl dX6_messageKind_3 ⟨Nat.le_refl _, Nat.le_refl _⟩ (Nat.le_of_ble_eq_true rfl) ?_
  rintro _ _ ⟨rfl, hy⟩
  obtain rfl := hy.symm
  dsimp only [Option.toList, List.cons_append, List.nil_append]
  exact g_iret h hr hk dX6_messageKind_6 (Nat.zero_le _) (Nat.zero_le _) ⟨rfl, Eq.symm rfl⟩
def r_X6_messageLine_ok (x : St) (k : Nat) : Int32 :=
  let x1 := s_X6_part_ok x k 1
  r_X6_part_ok x k 1
def s_X6_messageLine_ok (x : St) (k : Nat) : St :=
  let x1 := s_X6_part_ok x k 1
  x1
set_option maxRecDepth 100000 in
set_option maxHeartbeats 400000 in
theorem c_X6_messageLine_ok (l : Launch) (E : gE) (x : St) (k : Nat) (hs : sOK x 0) (hkn : k < nat (x.FM 4)) : Ct l yX6_messageLine wsX6_messageLine { frames := 2, cells := 0, slots := 0, locals := 43 } E [.ref (aM E), .int (nI k)] x (fun v y => v = some (.int (r_X6_messageLine_ok x k)) ∧ y = s_X6_messageLine_ok x k) 0 0 := by
  refine Ct.of (cc := cX6_messageLine) (nL := 2) (ret := (some .int)) (by decide) rfl (Nat.le_of_ble_eq_true rfl) ?_
  intro p e s m args below meth c h hr hk hname
  refine g_lvs (lv' := [(0, _), (1, _)]) rfl ?_
  refine g_aload_n h 0 dX6_messageLine_0 rfl rfl ?_
  refine g_iload_n h 1 dX6_messageLine_1 rfl rfl ?_
  refine g_iconst (v := nI 1) h dX6_messageLine_2 (by decide) ?_
  refine g_callV (As := [.int (nI k), .int (nI 1)]) (C := RX6) h 2 (c_X6_part_ok l E _ k 1 (by decide) hs hkn) rfl gX6_messageLine_X6_part rfl rfl rfl rfl (by decide +kernel) ⟨Nat.le_of_ble_eq_true rfl, Nat.le_of_ble_eq_true rfl⟩ (wat_M E _) rfl rfl dX6_messageLine_3 ⟨Nat.le_refl _, Nat.le_refl _⟩ (Nat.le_of_ble_eq_true rfl) ?_
  rintro _ _ ⟨rfl, hy⟩
  obtain rfl := hy.symm
  dsimp only [Option.toList, List.cons_append, List.nil_append]
  exact g_iret h hr hk dX6_messageLine_6 (Nat.zero_le _) (Nat.zero_le _) ⟨congrArg (fun z => some (Value.int z)) (Eq.symm rfl), Eq.symm rfl⟩
def s_X6_messageLine_no (x : St) (a : Int32) : St :=
  let x1 := s_X6_part_no x a 1
  x1
set_option maxRecDepth 100000 in
set_option maxHeartbeats 400000 in
theorem c_X6_messageLine_no (l : Launch) (E : gE) (x : St) (a : Int32) (ha : badM x a) : Ct l yX6_messageLine wsX6_messageLine { frames := 2, cells := 0, slots := 0, locals := 43 } E [.ref (aM E), .int a] x (fun v y => v = some (.int (nI 0)) ∧ y = s_X6_messageLine_no x a) 0 0 := by
  refine Ct.of (cc := cX6_messageLine) (nL := 2) (ret := (some .int)) (by decide) rfl (Nat.le_of_ble_eq_true rfl) ?_
  intro p e s m args below meth c h hr hk hname
  refine g_lvs (lv' := [(0, _), (1, _)]) rfl ?_
  refine g_aload_n h 0 dX6_messageLine_0 rfl rfl ?_
  refine g_iload_n h 1 dX6_messageLine_1 rfl rfl ?_
  refine g_iconst (v := nI 1) h dX6_messageLine_2 (by decide) ?_
  refine g_callV (As := [.int _, .int (nI 1)]) (C := RX6) h 2 (c_X6_part_no l E _ _ 1 ha) rfl gX6_messageLine_X6_part rfl rfl rfl rfl (by decide +kernel) ⟨Nat.le_of_ble_eq_true rfl, Nat.le_of_ble_eq_true rfl⟩ (wat_M E _) rfl rfl dX6_messageLine_3 ⟨Nat.le_refl _, Nat.le_refl _⟩ (Nat.le_of_ble_eq_true rfl) ?_
  rintro _ _ ⟨rfl, hy⟩
  obtain rfl := hy.symm
  dsimp only [Option.toList, List.cons_append, List.nil_append]
  exact g_iret h hr hk dX6_messageLine_6 (Nat.zero_le _) (Nat.zero_le _) ⟨rfl, Eq.symm rfl⟩
def r_X6_messageFrom_ok (x : St) (k : Nat) : Int32 :=
  let x1 := s_X6_part_ok x k 2
  r_X6_part_ok x k 2
def s_X6_messageFrom_ok (x : St) (k : Nat) : St :=
  let x1 := s_X6_part_ok x k 2
  x1
set_option maxRecDepth 100000 in
set_option maxHeartbeats 400000 in
theorem c_X6_messageFrom_ok (l : Launch) (E : gE) (x : St) (k : Nat) (hs : sOK x 0) (hkn : k < nat (x.FM 4)) : Ct l yX6_messageFrom wsX6_messageFrom { frames := 2, cells := 0, slots := 0, locals := 43 } E [.ref (aM E), .int (nI k)] x (fun v y => v = some (.int (r_X6_messageFrom_ok x k)) ∧ y = s_X6_messageFrom_ok x k) 0 0 := by
  refine Ct.of (cc := cX6_messageFrom) (nL := 2) (ret := (some .int)) (by decide) rfl (Nat.le_of_ble_eq_true rfl) ?_
  intro p e s m args below meth c h hr hk hname
  refine g_lvs (lv' := [(0, _), (1, _)]) rfl ?_
  refine g_aload_n h 0 dX6_messageFrom_0 rfl rfl ?_
  refine g_iload_n h 1 dX6_messageFrom_1 rfl rfl ?_
  refine g_iconst (v := nI 2) h dX6_messageFrom_2 (by decide) ?_
  refine g_callV (As := [.int (nI k), .int (nI 2)]) (C := RX6) h 2 (c_X6_part_ok l E _ k 2 (by decide) hs hkn) rfl gX6_messageFrom_X6_part rfl rfl rfl rfl (by decide +kernel) ⟨Nat.le_of_ble_eq_true rfl, Nat.le_of_ble_eq_true rfl⟩ (wat_M E _) rfl rfl dX6_messageFrom_3 ⟨Nat.le_refl _, Nat.le_refl _⟩ (Nat.le_of_ble_eq_true rfl) ?_
  rintro _ _ ⟨rfl, hy⟩
  obtain rfl := hy.symm
  dsimp only [Option.toList, List.cons_append, List.nil_append]
  exact g_iret h hr hk dX6_messageFrom_6 (Nat.zero_le _) (Nat.zero_le _) ⟨congrArg (fun z => some (Value.int z)) (Eq.symm rfl), Eq.symm rfl⟩
def s_X6_messageFrom_no (x : St) (a : Int32) : St :=
  let x1 := s_X6_part_no x a 2
  x1
set_option maxRecDepth 100000 in
set_option maxHeartbeats 400000 in
theorem c_X6_messageFrom_no (l : Launch) (E : gE) (x : St) (a : Int32) (ha : badM x a) : Ct l yX6_messageFrom wsX6_messageFrom { frames := 2, cells := 0, slots := 0, locals := 43 } E [.ref (aM E), .int a] x (fun v y => v = some (.int (nI 0)) ∧ y = s_X6_messageFrom_no x a) 0 0 := by
  refine Ct.of (cc := cX6_messageFrom) (nL := 2) (ret := (some .int)) (by decide) rfl (Nat.le_of_ble_eq_true rfl) ?_
  intro p e s m args below meth c h hr hk hname
  refine g_lvs (lv' := [(0, _), (1, _)]) rfl ?_
  refine g_aload_n h 0 dX6_messageFrom_0 rfl rfl ?_
  refine g_iload_n h 1 dX6_messageFrom_1 rfl rfl ?_
  refine g_iconst (v := nI 2) h dX6_messageFrom_2 (by decide) ?_
  refine g_callV (As := [.int _, .int (nI 2)]) (C := RX6) h 2 (c_X6_part_no l E _ _ 2 ha) rfl gX6_messageFrom_X6_part rfl rfl rfl rfl (by decide +kernel) ⟨Nat.le_of_ble_eq_true rfl, Nat.le_of_ble_eq_true rfl⟩ (wat_M E _) rfl rfl dX6_messageFrom_3 ⟨Nat.le_refl _, Nat.le_refl _⟩ (Nat.le_of_ble_eq_true rfl) ?_
  rintro _ _ ⟨rfl, hy⟩
  obtain rfl := hy.symm
  dsimp only [Option.toList, List.cons_append, List.nil_append]
  exact g_iret h hr hk dX6_messageFrom_6 (Nat.zero_le _) (Nat.zero_le _) ⟨rfl, Eq.symm rfl⟩
def r_X6_messageTo_ok (x : St) (k : Nat) : Int32 :=
  let x1 := s_X6_part_ok x k 3
  r_X6_part_ok x k 3
def s_X6_messageTo_ok (x : St) (k : Nat) : St :=
  let x1 := s_X6_part_ok x k 3
  x1
set_option maxRecDepth 100000 in
set_option maxHeartbeats 400000 in
theorem c_X6_messageTo_ok (l : Launch) (E : gE) (x : St) (k : Nat) (hs : sOK x 0) (hkn : k < nat (x.FM 4)) : Ct l yX6_messageTo wsX6_messageTo { frames := 2, cells := 0, slots := 0, locals := 43 } E [.ref (aM E), .int (nI k)] x (fun v y => v = some (.int (r_X6_messageTo_ok x k)) ∧ y = s_X6_messageTo_ok x k) 0 0 := by
  refine Ct.of (cc := cX6_messageTo) (nL := 2) (ret := (some .int)) (by decide) rfl (Nat.le_of_ble_eq_true rfl) ?_
  intro p e s m args below meth c h hr hk hname
  refine g_lvs (lv' := [(0, _), (1, _)]) rfl ?_
  refine g_aload_n h 0 dX6_messageTo_0 rfl rfl ?_
  refine g_iload_n h 1 dX6_messageTo_1 rfl rfl ?_
  refine g_iconst (v := nI 3) h dX6_messageTo_2 (by decide) ?_
  refine g_callV (As := [.int (nI k), .int (nI 3)]) (C := RX6) h 2 (c_X6_part_ok l E _ k 3 (by decide) hs hkn) rfl gX6_messageTo_X6_part rfl rfl rfl rfl (by decide +kernel) ⟨Nat.le_of_ble_eq_true rfl, Nat.le_of_ble_eq_true rfl⟩ (wat_M E _) rfl rfl dX6_messageTo_3 ⟨Nat.le_refl _, Nat.le_refl _⟩ (Nat.le_of_ble_eq_true rfl) ?_
  rintro _ _ ⟨rfl, hy⟩
  obtain rfl := hy.symm
  dsimp only [Option.toList, List.cons_append, List.nil_append]
  exact g_iret h hr hk dX6_messageTo_6 (Nat.zero_le _) (Nat.zero_le _) ⟨congrArg (fun z => some (Value.int z)) (Eq.symm rfl), Eq.symm rfl⟩
def s_X6_messageTo_no (x : St) (a : Int32) : St :=
  let x1 := s_X6_part_no x a 3
  x1
set_option maxRecDepth 100000 in
set_option maxHeartbeats 400000 in
theorem c_X6_messageTo_no (l : Launch) (E : gE) (x : St) (a : Int32) (ha : badM x a) : Ct l yX6_messageTo wsX6_messageTo { frames := 2, cells := 0, slots := 0, locals := 43 } E [.ref (aM E), .int a] x (fun v y => v = some (.int (nI 0)) ∧ y = s_X6_messageTo_no x a) 0 0 := by
  refine Ct.of (cc := cX6_messageTo) (nL := 2) (ret := (some .int)) (by decide) rfl (Nat.le_of_ble_eq_true rfl) ?_
  intro p e s m args below meth c h hr hk hname
  refine g_lvs (lv' := [(0, _), (1, _)]) rfl ?_
  refine g_aload_n h 0 dX6_messageTo_0 rfl rfl ?_
  refine g_iload_n h 1 dX6_messageTo_1 rfl rfl ?_
  refine g_iconst (v := nI 3) h dX6_messageTo_2 (by decide) ?_
  refine g_callV (As := [.int _, .int (nI 3)]) (C := RX6) h 2 (c_X6_part_no l E _ _ 3 ha) rfl gX6_messageTo_X6_part rfl rfl rfl rfl (by decide +kernel) ⟨Nat.le_of_ble_eq_true rfl, Nat.le_of_ble_eq_true rfl⟩ (wat_M E _) rfl rfl dX6_messageTo_3 ⟨Nat.le_refl _, Nat.le_refl _⟩ (Nat.le_of_ble_eq_true rfl) ?_
  rintro _ _ ⟨rfl, hy⟩
  obtain rfl := hy.symm
  dsimp only [Option.toList, List.cons_append, List.nil_append]
  exact g_iret h hr hk dX6_messageTo_6 (Nat.zero_le _) (Nat.zero_le _) ⟨rfl, Eq.symm rfl⟩
theorem in_X6_isInOrder_X6 : ∀ w ∈ wsX60, w ∈ wsX6_isInOrder := by decide +kernel
theorem lk_X6_isInOrder_83 : Cond.fieldLink RX6 83 "CacheDirectoryModel" "thrown" "I" ∈ wsX6_isInOrder := by decide +kernel
theorem lk_X6_isInOrder_16 : Cond.fieldLink RX6 16 "CacheDirectoryModel" "states" "[I" ∈ wsX6_isInOrder := by decide +kernel
theorem lk_X6_isInOrder_19 : Cond.fieldLink RX6 19 "CacheDirectoryModel" "values" "[I" ∈ wsX6_isInOrder := by decide +kernel
def lp_X6_isInOrder_ok_34 (x : St) (j : Nat) (b34_0 : Int32) (b34_1 : Int32) (b34_2 : Int32) (b34_3 : Int32) (b34_4 : Nat) : Nat → Int32 × Int32 × Int32 × Int32 × Nat
  | 0 => (b34_0, b34_1, b34_2, b34_3, b34_4)
  | a34 + 1 =>
  if (((x.setFM 0 (nI 0))).AM 2 (16 * a34 + j)) = 0 then
    ((lp_X6_isInOrder_ok_34 x j b34_0 b34_1 b34_2 b34_3 b34_4 a34).1, (lp_X6_isInOrder_ok_34 x j b34_0 b34_1 b34_2 b34_3 b34_4 a34).2.1, (lp_X6_isInOrder_ok_34 x j b34_0 b34_1 b34_2 b34_3 b34_4 a34).2.2.1, (lp_X6_isInOrder_ok_34 x j b34_0 b34_1 b34_2 b34_3 b34_4 a34).2.2.2.1, (lp_X6_isInOrder_ok_34 x j b34_0 b34_1 b34_2 b34_3 b34_4 a34).2.2.2.2)
  else
    if (((x.setFM 0 (nI 0))).AM 2 (16 * a34 + j)) < (nI 2) then
      if (((x.setFM 0 (nI 0))).AM 2 (16 * a34 + j)) = (nI 3) then
        if (nI ((lp_X6_isInOrder_ok_34 x j b34_0 b34_1 b34_2 b34_3 b34_4 a34).2.2.2.2)) = 0 then
          (((lp_X6_isInOrder_ok_34 x j b34_0 b34_1 b34_2 b34_3 b34_4 a34).1) + Int32.ofInt (1), ((lp_X6_isInOrder_ok_34 x j b34_0 b34_1 b34_2 b34_3 b34_4 a34).2.1) + (nI 0), ((lp_X6_isInOrder_ok_34 x j b34_0 b34_1 b34_2 b34_3 b34_4 a34).2.2.1) + (nI 1), ((x.setFM 0 (nI 0))).AM 3 (16 * a34 + j), 0)
        else
          if ((lp_X6_isInOrder_ok_34 x j b34_0 b34_1 b34_2 b34_3 b34_4 a34).2.2.2.1) = ((-1 : Int32)) then
            (((lp_X6_isInOrder_ok_34 x j b34_0 b34_1 b34_2 b34_3 b34_4 a34).1) + Int32.ofInt (1), ((lp_X6_isInOrder_ok_34 x j b34_0 b34_1 b34_2 b34_3 b34_4 a34).2.1) + (nI 0), ((lp_X6_isInOrder_ok_34 x j b34_0 b34_1 b34_2 b34_3 b34_4 a34).2.2.1) + (nI 1), ((x.setFM 0 (nI 0))).AM 3 (16 * a34 + j), 1)
          else
            if (((x.setFM 0 (nI 0))).AM 3 (16 * a34 + j)) = ((lp_X6_isInOrder_ok_34 x j b34_0 b34_1 b34_2 b34_3 b34_4 a34).2.2.2.1) then
              (((lp_X6_isInOrder_ok_34 x j b34_0 b34_1 b34_2 b34_3 b34_4 a34).1) + Int32.ofInt (1), ((lp_X6_isInOrder_ok_34 x j b34_0 b34_1 b34_2 b34_3 b34_4 a34).2.1) + (nI 0), ((lp_X6_isInOrder_ok_34 x j b34_0 b34_1 b34_2 b34_3 b34_4 a34).2.2.1) + (nI 1), ((x.setFM 0 (nI 0))).AM 3 (16 * a34 + j), 1)
            else
              (((lp_X6_isInOrder_ok_34 x j b34_0 b34_1 b34_2 b34_3 b34_4 a34).1) + Int32.ofInt (1), ((lp_X6_isInOrder_ok_34 x j b34_0 b34_1 b34_2 b34_3 b34_4 a34).2.1) + (nI 0), ((lp_X6_isInOrder_ok_34 x j b34_0 b34_1 b34_2 b34_3 b34_4 a34).2.2.1) + (nI 1), ((x.setFM 0 (nI 0))).AM 3 (16 * a34 + j), 0)
      else
        if (nI ((lp_X6_isInOrder_ok_34 x j b34_0 b34_1 b34_2 b34_3 b34_4 a34).2.2.2.2)) = 0 then
          (((lp_X6_isInOrder_ok_34 x j b34_0 b34_1 b34_2 b34_3 b34_4 a34).1) + Int32.ofInt (1), ((lp_X6_isInOrder_ok_34 x j b34_0 b34_1 b34_2 b34_3 b34_4 a34).2.1) + (nI 0), ((lp_X6_isInOrder_ok_34 x j b34_0 b34_1 b34_2 b34_3 b34_4 a34).2.2.1) + (nI 0), ((x.setFM 0 (nI 0))).AM 3 (16 * a34 + j), 0)
        else
          if ((lp_X6_isInOrder_ok_34 x j b34_0 b34_1 b34_2 b34_3 b34_4 a34).2.2.2.1) = ((-1 : Int32)) then
            (((lp_X6_isInOrder_ok_34 x j b34_0 b34_1 b34_2 b34_3 b34_4 a34).1) + Int32.ofInt (1), ((lp_X6_isInOrder_ok_34 x j b34_0 b34_1 b34_2 b34_3 b34_4 a34).2.1) + (nI 0), ((lp_X6_isInOrder_ok_34 x j b34_0 b34_1 b34_2 b34_3 b34_4 a34).2.2.1) + (nI 0), ((x.setFM 0 (nI 0))).AM 3 (16 * a34 + j), 1)
          else
            if (((x.setFM 0 (nI 0))).AM 3 (16 * a34 + j)) = ((lp_X6_isInOrder_ok_34 x j b34_0 b34_1 b34_2 b34_3 b34_4 a34).2.2.2.1) then
              (((lp_X6_isInOrder_ok_34 x j b34_0 b34_1 b34_2 b34_3 b34_4 a34).1) + Int32.ofInt (1), ((lp_X6_isInOrder_ok_34 x j b34_0 b34_1 b34_2 b34_3 b34_4 a34).2.1) + (nI 0), ((lp_X6_isInOrder_ok_34 x j b34_0 b34_1 b34_2 b34_3 b34_4 a34).2.2.1) + (nI 0), ((x.setFM 0 (nI 0))).AM 3 (16 * a34 + j), 1)
            else
              (((lp_X6_isInOrder_ok_34 x j b34_0 b34_1 b34_2 b34_3 b34_4 a34).1) + Int32.ofInt (1), ((lp_X6_isInOrder_ok_34 x j b34_0 b34_1 b34_2 b34_3 b34_4 a34).2.1) + (nI 0), ((lp_X6_isInOrder_ok_34 x j b34_0 b34_1 b34_2 b34_3 b34_4 a34).2.2.1) + (nI 0), ((x.setFM 0 (nI 0))).AM 3 (16 * a34 + j), 0)
    else
      if (((x.setFM 0 (nI 0))).AM 2 (16 * a34 + j)) = (nI 3) then
        if (nI ((lp_X6_isInOrder_ok_34 x j b34_0 b34_1 b34_2 b34_3 b34_4 a34).2.2.2.2)) = 0 then
          (((lp_X6_isInOrder_ok_34 x j b34_0 b34_1 b34_2 b34_3 b34_4 a34).1) + Int32.ofInt (1), ((lp_X6_isInOrder_ok_34 x j b34_0 b34_1 b34_2 b34_3 b34_4 a34).2.1) + (nI 1), ((lp_X6_isInOrder_ok_34 x j b34_0 b34_1 b34_2 b34_3 b34_4 a34).2.2.1) + (nI 1), ((x.setFM 0 (nI 0))).AM 3 (16 * a34 + j), 0)
        else
          if ((lp_X6_isInOrder_ok_34 x j b34_0 b34_1 b34_2 b34_3 b34_4 a34).2.2.2.1) = ((-1 : Int32)) then
            (((lp_X6_isInOrder_ok_34 x j b34_0 b34_1 b34_2 b34_3 b34_4 a34).1) + Int32.ofInt (1), ((lp_X6_isInOrder_ok_34 x j b34_0 b34_1 b34_2 b34_3 b34_4 a34).2.1) + (nI 1), ((lp_X6_isInOrder_ok_34 x j b34_0 b34_1 b34_2 b34_3 b34_4 a34).2.2.1) + (nI 1), ((x.setFM 0 (nI 0))).AM 3 (16 * a34 + j), 1)
          else
            if (((x.setFM 0 (nI 0))).AM 3 (16 * a34 + j)) = ((lp_X6_isInOrder_ok_34 x j b34_0 b34_1 b34_2 b34_3 b34_4 a34).2.2.2.1) then
              (((lp_X6_isInOrder_ok_34 x j b34_0 b34_1 b34_2 b34_3 b34_4 a34).1) + Int32.ofInt (1), ((lp_X6_isInOrder_ok_34 x j b34_0 b34_1 b34_2 b34_3 b34_4 a34).2.1) + (nI 1), ((lp_X6_isInOrder_ok_34 x j b34_0 b34_1 b34_2 b34_3 b34_4 a34).2.2.1) + (nI 1), ((x.setFM 0 (nI 0))).AM 3 (16 * a34 + j), 1)
            else
              (((lp_X6_isInOrder_ok_34 x j b34_0 b34_1 b34_2 b34_3 b34_4 a34).1) + Int32.ofInt (1), ((lp_X6_isInOrder_ok_34 x j b34_0 b34_1 b34_2 b34_3 b34_4 a34).2.1) + (nI 1), ((lp_X6_isInOrder_ok_34 x j b34_0 b34_1 b34_2 b34_3 b34_4 a34).2.2.1) + (nI 1), ((x.setFM 0 (nI 0))).AM 3 (16 * a34 + j), 0)
      else
        if (nI ((lp_X6_isInOrder_ok_34 x j b34_0 b34_1 b34_2 b34_3 b34_4 a34).2.2.2.2)) = 0 then
          (((lp_X6_isInOrder_ok_34 x j b34_0 b34_1 b34_2 b34_3 b34_4 a34).1) + Int32.ofInt (1), ((lp_X6_isInOrder_ok_34 x j b34_0 b34_1 b34_2 b34_3 b34_4 a34).2.1) + (nI 1), ((lp_X6_isInOrder_ok_34 x j b34_0 b34_1 b34_2 b34_3 b34_4 a34).2.2.1) + (nI 0), ((x.setFM 0 (nI 0))).AM 3 (16 * a34 + j), 0)
        else
          if ((lp_X6_isInOrder_ok_34 x j b34_0 b34_1 b34_2 b34_3 b34_4 a34).2.2.2.1) = ((-1 : Int32)) then
            (((lp_X6_isInOrder_ok_34 x j b34_0 b34_1 b34_2 b34_3 b34_4 a34).1) + Int32.ofInt (1), ((lp_X6_isInOrder_ok_34 x j b34_0 b34_1 b34_2 b34_3 b34_4 a34).2.1) + (nI 1), ((lp_X6_isInOrder_ok_34 x j b34_0 b34_1 b34_2 b34_3 b34_4 a34).2.2.1) + (nI 0), ((x.setFM 0 (nI 0))).AM 3 (16 * a34 + j), 1)
          else
            if (((x.setFM 0 (nI 0))).AM 3 (16 * a34 + j)) = ((lp_X6_isInOrder_ok_34 x j b34_0 b34_1 b34_2 b34_3 b34_4 a34).2.2.2.1) then
              (((lp_X6_isInOrder_ok_34 x j b34_0 b34_1 b34_2 b34_3 b34_4 a34).1) + Int32.ofInt (1), ((lp_X6_isInOrder_ok_34 x j b34_0 b34_1 b34_2 b34_3 b34_4 a34).2.1) + (nI 1), ((lp_X6_isInOrder_ok_34 x j b34_0 b34_1 b34_2 b34_3 b34_4 a34).2.2.1) + (nI 0), ((x.setFM 0 (nI 0))).AM 3 (16 * a34 + j), 1)
            else
              (((lp_X6_isInOrder_ok_34 x j b34_0 b34_1 b34_2 b34_3 b34_4 a34).1) + Int32.ofInt (1), ((lp_X6_isInOrder_ok_34 x j b34_0 b34_1 b34_2 b34_3 b34_4 a34).2.1) + (nI 1), ((lp_X6_isInOrder_ok_34 x j b34_0 b34_1 b34_2 b34_3 b34_4 a34).2.2.1) + (nI 0), ((x.setFM 0 (nI 0))).AM 3 (16 * a34 + j), 0)
def r_X6_isInOrder_ok (x : St) (j : Nat) : Nat :=
  let x1 := x.setFM 0 (nI 0)
  if (nI ((lp_X6_isInOrder_ok_34 x j (nI 0) (nI 0) (nI 0) ((-1 : Int32)) 1 4).2.2.2.2)) = 0 then
    0
  else
    if (nI 1) < ((lp_X6_isInOrder_ok_34 x j (nI 0) (nI 0) (nI 0) ((-1 : Int32)) 1 4).2.1) then
      0
    else
      if ((lp_X6_isInOrder_ok_34 x j (nI 0) (nI 0) (nI 0) ((-1 : Int32)) 1 4).2.2.1) = 0 then
        1
      else
        if ((lp_X6_isInOrder_ok_34 x j (nI 0) (nI 0) (nI 0) ((-1 : Int32)) 1 4).1) = (nI 1) then
          1
        else
          0
def s_X6_isInOrder_ok (x : St) (j : Nat) : St :=
  let x1 := x.setFM 0 (nI 0)
  if (nI ((lp_X6_isInOrder_ok_34 x j (nI 0) (nI 0) (nI 0) ((-1 : Int32)) 1 4).2.2.2.2)) = 0 then
    (x.setFM 0 (nI 0))
  else
    if (nI 1) < ((lp_X6_isInOrder_ok_34 x j (nI 0) (nI 0) (nI 0) ((-1 : Int32)) 1 4).2.1) then
      (x.setFM 0 (nI 0))
    else
      if ((lp_X6_isInOrder_ok_34 x j (nI 0) (nI 0) (nI 0) ((-1 : Int32)) 1 4).2.2.1) = 0 then
        (x.setFM 0 (nI 0))
      else
        if ((lp_X6_isInOrder_ok_34 x j (nI 0) (nI 0) (nI 0) ((-1 : Int32)) 1 4).1) = (nI 1) then
          (x.setFM 0 (nI 0))
        else
          (x.setFM 0 (nI 0))
set_option maxRecDepth 100000 in
set_option maxHeartbeats 400000 in
theorem c_X6_isInOrder_ok (l : Launch) (E : gE) (x : St) (j : Nat) (hj : j < 16) : Ct l yX6_isInOrder wsX6_isInOrder { frames := 1, cells := 0, slots := 0, locals := 21 } E [.ref (aM E), .int (nI j)] x (fun v y => v = some (.int (nI (r_X6_isInOrder_ok x j))) ∧ y = s_X6_isInOrder_ok x j) 0 0 := by
  refine Ct.of (cc := cX6_isInOrder) (nL := 9) (ret := (some .boolean)) (by decide) rfl (Nat.le_of_ble_eq_true rfl) ?_
  intro p e s m args below meth c h hr hk hname
  refine g_lvs (lv' := [(0, _), (1, _)]) rfl ?_
  refine g_aload_n h 0 dX6_isInOrder_0 rfl rfl ?_
  refine g_iconst (v := nI 0) h dX6_isInOrder_1 (by decide) ?_
  refine g_put (C := RX6) (T := TX6) (N := 29) h 0 tyX6 (ws_M0 E _ _) rfl in_X6_isInOrder_X6 tyX6_ok nmX6 (by decide) lk_X6_isInOrder_83 rfl rfl rfl rfl rfl (Nat.le_of_ble_eq_true rfl) dX6_isInOrder_2 ?_
  refine g_iload_n h 1 dX6_isInOrder_5 rfl rfl ?_
  refine g_callS (As := [.int (nI j)]) h 1 (c_X6_isLine_t l E _ j (by omega)) rfl gX6_isInOrder_X6_isLine rfl rfl rfl rfl (by decide +kernel) ⟨Nat.le_of_ble_eq_true rfl, Nat.le_of_ble_eq_true rfl⟩ dX6_isInOrder_6 ⟨Nat.le_refl _, Nat.le_refl _⟩ (Nat.le_of_ble_eq_true rfl) ?_
  rintro _ _ ⟨rfl, hy⟩
  obtain rfl := hy.symm
  dsimp only [Option.toList, List.cons_append, List.nil_append]
  refine g_if_ne h 18 dX6_isInOrder_9 (by decide) (fun c_9 => ?_) (fun c_9 => absurd c_9 (by decide))
  refine g_iconst (v := nI 0) h dX6_isInOrder_18 (by decide) ?_
  refine g_istore_n (lv' := [(0, _), (1, _), (2, _)]) h [1, 2, 0] dX6_isInOrder_19 rfl (by decide) rfl ?_
  refine g_iconst (v := nI 0) h dX6_isInOrder_20 (by decide) ?_
  refine g_istore_n (lv' := [(0, _), (1, _), (2, _), (3, _)]) h [1, 2, 3, 0] dX6_isInOrder_21 rfl (by decide) rfl ?_
  refine g_iconst (v := nI 0) h dX6_isInOrder_22 (by decide) ?_
  refine g_istore (lv' := [(0, _), (1, _), (2, _), (3, _), (4, _)]) h [1, 2, 3, 4, 0] dX6_isInOrder_23 (by decide) rfl ?_
  refine g_iconst (v := -1) h dX6_isInOrder_25 (by decide) ?_
  refine g_istore (lv' := [(0, _), (1, _), (2, _), (3, _), (4, _), (5, _)]) h [1, 2, 3, 4, 5, 0] dX6_isInOrder_26 (by decide) rfl ?_
  refine g_iconst (v := nI 1) h dX6_isInOrder_28 (by decide) ?_
  refine g_istore (lv' := [(0, _), (1, _), (2, _), (3, _), (4, _), (5, _), (6, _)]) h [1, 2, 3, 4, 5, 6, 0] dX6_isInOrder_29 (by decide) rfl ?_
  refine g_iconst (v := nI 0) h dX6_isInOrder_31 (by decide) ?_
  refine g_istore (lv' := [(0, _), (1, _), (2, _), (3, _), (4, _), (5, _), (6, _), (7, _)]) h [1, 2, 3, 4, 5, 6, 7, 0] dX6_isInOrder_32 (by decide) rfl ?_
  have loop34 : ∀ (k34 a34 : Nat), (4) - a34 < k34 → a34 ≤ 4 → gG p l e ({ frames := 1, cells := 0, slots := 0, locals := 21 } : Room) s m args below meth c (gQ below E x s (fun v y => v = some (.int (nI (r_X6_isInOrder_ok x j))) ∧ y = s_X6_isInOrder_ok x j) args 0 0) E x 9 0 0 ((x.setFM 0 (nI 0))) 34 [(0, .ref (aM E)), (1, .int (nI j)), (2, .int ((lp_X6_isInOrder_ok_34 x j (nI 0) (nI 0) (nI 0) ((-1 : Int32)) 1 a34).1)), (3, .int ((lp_X6_isInOrder_ok_34 x j (nI 0) (nI 0) (nI 0) ((-1 : Int32)) 1 a34).2.1)), (4, .int ((lp_X6_isInOrder_ok_34 x j (nI 0) (nI 0) (nI 0) ((-1 : Int32)) 1 a34).2.2.1)), (5, .int ((lp_X6_isInOrder_ok_34 x j (nI 0) (nI 0) (nI 0) ((-1 : Int32)) 1 a34).2.2.2.1)), (6, .int (nI ((lp_X6_isInOrder_ok_34 x j (nI 0) (nI 0) (nI 0) ((-1 : Int32)) 1 a34).2.2.2.2))), (7, .int (nI a34))] [] := by
    intro k34
    induction k34 with
    | zero => intro a34 hk34; exact absurd hk34 (by omega)
    | succ k34 ih34 =>
      intro a34 hk34 ha34
      refine g_iload h 7 dX6_isInOrder_34 rfl ?_
      refine g_iconst (v := nI 4) h dX6_isInOrder_36 (by decide) ?_
      refine g_icmp_geN h 147 dX6_isInOrder_37 (by decide) (by omega) (by omega) (fun c_37 => ?_) (fun c_37 => ?_)
      · skip
        obtain rfl : a34 = 4 := by omega
        refine g_iload h 6 dX6_isInOrder_147 rfl ?_
        refine g_if_eq h 171 dX6_isInOrder_149 (by decide) (fun c_149 => ?_) (fun c_149 => ?_)
        · skip
          refine g_iconst (v := nI 0) h dX6_isInOrder_171 (by decide) ?_
          exact g_zret h hr hk (by decide) dX6_isInOrder_172 (Nat.zero_le _) (Nat.zero_le _) ⟨congrArg (fun z => some (Value.int (nI z))) (Eq.symm (if_pos c_149)), Eq.symm (if_pos c_149)⟩
        · skip
          refine g_iload_n h 3 dX6_isInOrder_152 rfl rfl ?_
          refine g_iconst (v := nI 1) h dX6_isInOrder_153 (by decide) ?_
          refine g_icmp_gt h 171 dX6_isInOrder_154 (by decide) (fun c_154 => ?_) (fun c_154 => ?_)
          · skip
            refine g_iconst (v := nI 0) h dX6_isInOrder_171 (by decide) ?_
            exact g_zret h hr hk (by decide) dX6_isInOrder_172 (Nat.zero_le _) (Nat.zero_le _) ⟨congrArg (fun z => some (Value.int (nI z))) (Eq.symm (Eq.trans (if_neg c_149) (if_pos c_154))), Eq.symm (Eq.trans (if_neg c_149) (if_pos c_154))⟩
          · skip
            refine g_iload h 4 dX6_isInOrder_157 rfl ?_
            refine g_if_eq h 167 dX6_isInOrder_159 (by decide) (fun c_159 => ?_) (fun c_159 => ?_)
            · skip
              refine g_iconst (v := nI 1) h dX6_isInOrder_167 (by decide) ?_
              refine g_goto h 172 dX6_isInOrder_168 (by decide) ?_
              exact g_zret h hr hk (by decide) dX6_isInOrder_172 (Nat.zero_le _) (Nat.zero_le _) ⟨congrArg (fun z => some (Value.int (nI z))) (Eq.symm (Eq.trans (if_neg c_149) (Eq.trans (if_neg c_154) (if_pos c_159)))), Eq.symm (Eq.trans (if_neg c_149) (Eq.trans (if_neg c_154) (if_pos c_159)))⟩
            · skip
              refine g_iload_n h 2 dX6_isInOrder_162 rfl rfl ?_
              refine g_iconst (v := nI 1) h dX6_isInOrder_163 (by decide) ?_
              refine g_icmp_ne h 171 dX6_isInOrder_164 (by decide) (fun c_164 => ?_) (fun c_164 => ?_)
              · skip
                refine g_iconst (v := nI 0) h dX6_isInOrder_171 (by decide) ?_
                exact g_zret h hr hk (by decide) dX6_isInOrder_172 (Nat.zero_le _) (Nat.zero_le _) ⟨congrArg (fun z => some (Value.int (nI z))) (Eq.symm (Eq.trans (if_neg c_149) (Eq.trans (if_neg c_154) (Eq.trans (if_neg c_159) (if_neg c_164))))), Eq.symm (Eq.trans (if_neg c_149) (Eq.trans (if_neg c_154) (Eq.trans (if_neg c_159) (if_neg c_164))))⟩
              · skip
                refine g_iconst (v := nI 1) h dX6_isInOrder_167 (by decide) ?_
                refine g_goto h 172 dX6_isInOrder_168 (by decide) ?_
                exact g_zret h hr hk (by decide) dX6_isInOrder_172 (Nat.zero_le _) (Nat.zero_le _) ⟨congrArg (fun z => some (Value.int (nI z))) (Eq.symm (Eq.trans (if_neg c_149) (Eq.trans (if_neg c_154) (Eq.trans (if_neg c_159) (if_pos c_164))))), Eq.symm (Eq.trans (if_neg c_149) (Eq.trans (if_neg c_154) (Eq.trans (if_neg c_159) (if_pos c_164))))⟩
      · skip
        have hlt_37 : a34 < 4 := by omega
        refine g_aload_n h 0 dX6_isInOrder_40 rfl rfl ?_
        refine g_get (C := RX6) (T := TX6) (N := 29) h 3 (wat_M E _) rfl in_X6_isInOrder_X6 (by decide) lk_X6_isInOrder_16 rfl rfl dX6_isInOrder_41 ?_
        refine g_iload h 7 dX6_isInOrder_44 rfl ?_
        refine g_iload_n h 1 dX6_isInOrder_46 rfl rfl ?_
        refine g_callS (As := [.int (nI a34), .int (nI j)]) h 2 (c_X6_at l E _ a34 j (by omega) (by omega)) rfl gX6_isInOrder_X6_at rfl rfl rfl rfl (by decide +kernel) ⟨Nat.le_of_ble_eq_true rfl, Nat.le_of_ble_eq_true rfl⟩ dX6_isInOrder_47 ⟨Nat.le_refl _, Nat.le_refl _⟩ (Nat.le_of_ble_eq_true rfl) ?_
        rintro _ _ ⟨rfl, hy⟩
        obtain rfl := hy.symm
        dsimp only [Option.toList, List.cons_append, List.nil_append]
        refine g_iald (n := 64) h (wat_Y E _ (i := 2) (by decide)) (by omega) (by decide) dX6_isInOrder_50 ?_
        refine g_istore (lv' := [(0, _), (1, _), (2, _), (3, _), (4, _), (5, _), (6, _), (7, _), (8, _)]) h [1, 2, 3, 4, 5, 6, 7, 8, 0] dX6_isInOrder_51 (by decide) rfl ?_
        refine g_iload h 8 dX6_isInOrder_53 rfl ?_
        refine g_if_ne h 61 dX6_isInOrder_55 (by decide) (fun c_55 => ?_) (fun c_55 => ?_)
        · skip
          refine g_iinc (lv' := [(0, _), (1, _), (2, _), (3, _), (4, _), (5, _), (6, _), (7, _), (8, _)]) h 2 [1, 2, 0, 3, 4, 5, 6, 7, 8] dX6_isInOrder_61 rfl rfl (by decide) rfl ?_
          refine g_iload_n h 3 dX6_isInOrder_64 rfl rfl ?_
          refine g_iload h 8 dX6_isInOrder_65 rfl ?_
          refine g_iconst (v := nI 2) h dX6_isInOrder_67 (by decide) ?_
          refine g_icmp_lt h 75 dX6_isInOrder_68 (by decide) (fun c_68 => ?_) (fun c_68 => ?_)
          · skip
            refine g_iconst (v := nI 0) h dX6_isInOrder_75 (by decide) ?_
            refine g_iadd h dX6_isInOrder_76 ?_
            refine g_istore_n (lv' := [(0, _), (1, _), (2, _), (3, _), (4, _), (5, _), (6, _), (7, _), (8, _)]) h [1, 2, 3, 0, 4, 5, 6, 7, 8] dX6_isInOrder_77 rfl (by decide) rfl ?_
            refine g_iload h 4 dX6_isInOrder_78 rfl ?_
            refine g_iload h 8 dX6_isInOrder_80 rfl ?_
            refine g_iconst (v := nI 3) h dX6_isInOrder_82 (by decide) ?_
            refine g_icmp_ne h 90 dX6_isInOrder_83 (by decide) (fun c_83 => ?_) (fun c_83 => ?_)
            · skip
              refine g_iconst (v := nI 0) h dX6_isInOrder_90 (by decide) ?_
              refine g_iadd h dX6_isInOrder_91 ?_
              refine g_istore (lv' := [(0, _), (1, _), (2, _), (3, _), (4, _), (5, _), (6, _), (7, _), (8, _)]) h [1, 2, 3, 4, 0, 5, 6, 7, 8] dX6_isInOrder_92 (by decide) rfl ?_
              refine g_iload h 6 dX6_isInOrder_94 rfl ?_
              refine g_if_eq h 125 dX6_isInOrder_96 (by decide) (fun c_96 => ?_) (fun c_96 => ?_)
              · skip
                refine g_iconst (v := nI 0) h dX6_isInOrder_125 (by decide) ?_
                refine g_istore (lv' := [(0, _), (1, _), (2, _), (3, _), (4, _), (5, _), (6, _), (7, _), (8, _)]) h [1, 2, 3, 4, 5, 6, 0, 7, 8] dX6_isInOrder_126 (by decide) rfl ?_
                refine g_aload_n h 0 dX6_isInOrder_128 rfl rfl ?_
                refine g_get (C := RX6) (T := TX6) (N := 29) h 4 (wat_M E _) rfl in_X6_isInOrder_X6 (by decide) lk_X6_isInOrder_19 rfl rfl dX6_isInOrder_129 ?_
                refine g_iload h 7 dX6_isInOrder_132 rfl ?_
                refine g_iload_n h 1 dX6_isInOrder_134 rfl rfl ?_
                refine g_callS (As := [.int (nI a34), .int (nI j)]) h 2 (c_X6_at l E _ a34 j (by omega) (by omega)) rfl gX6_isInOrder_X6_at rfl rfl rfl rfl (by decide +kernel) ⟨Nat.le_of_ble_eq_true rfl, Nat.le_of_ble_eq_true rfl⟩ dX6_isInOrder_135 ⟨Nat.le_refl _, Nat.le_refl _⟩ (Nat.le_of_ble_eq_true rfl) ?_
                rintro _ _ ⟨rfl, hy⟩
                obtain rfl := hy.symm
                dsimp only [Option.toList, List.cons_append, List.nil_append]
                refine g_iald (n := 64) h (wat_Y E _ (i := 3) (by decide)) (by omega) (by decide) dX6_isInOrder_138 ?_
                refine g_istore (lv' := [(0, _), (1, _), (2, _), (3, _), (4, _), (5, _), (6, _), (7, _), (8, _)]) h [1, 2, 3, 4, 5, 0, 6, 7, 8] dX6_isInOrder_139 (by decide) rfl ?_
                refine g_iinc (lv' := [(0, _), (1, _), (2, _), (3, _), (4, _), (5, _), (6, _), (7, .int (nI (a34 + 1))), (8, _)]) h 7 [1, 2, 3, 4, 5, 6, 7, 0, 8] dX6_isInOrder_141 rfl (nI_add _ 1) (by decide) rfl ?_
                refine g_goto h 34 dX6_isInOrder_144 (by decide) ?_
                refine g_lv (lv' := [(0, _), (1, _), (2, _), (3, _), (4, _), (5, _), (6, _), (7, _)]) [0, 1, 2, 3, 4, 5, 6, 7] rfl ?_
                have hb34 : lp_X6_isInOrder_ok_34 x j (nI 0) (nI 0) (nI 0) ((-1 : Int32)) 1 (a34 + 1) = (_, _, _, _, _) := (Eq.trans (if_neg c_55) (Eq.trans (if_pos c_68) (Eq.trans (if_neg c_83) (if_pos c_96))))
                refine g_lvs (lv' := [(0, .ref (aM E)), (1, .int (nI j)), (2, .int ((lp_X6_isInOrder_ok_34 x j (nI 0) (nI 0) (nI 0) ((-1 : Int32)) 1 (a34 + 1)).1)), (3, .int ((lp_X6_isInOrder_ok_34 x j (nI 0) (nI 0) (nI 0) ((-1 : Int32)) 1 (a34 + 1)).2.1)), (4, .int ((lp_X6_isInOrder_ok_34 x j (nI 0) (nI 0) (nI 0) ((-1 : Int32)) 1 (a34 + 1)).2.2.1)), (5, .int ((lp_X6_isInOrder_ok_34 x j (nI 0) (nI 0) (nI 0) ((-1 : Int32)) 1 (a34 + 1)).2.2.2.1)), (6, .int (nI ((lp_X6_isInOrder_ok_34 x j (nI 0) (nI 0) (nI 0) ((-1 : Int32)) 1 (a34 + 1)).2.2.2.2))), (7, .int (nI (a34 + 1)))]) (by rw [hb34]) ?_
                exact ih34 (a34 + 1) (by omega) (by omega)
              · skip
                refine g_iload h 5 dX6_isInOrder_99 rfl ?_
                refine g_iconst (v := -1) h dX6_isInOrder_101 (by decide) ?_
                refine g_icmp_eq h 121 dX6_isInOrder_102 (by decide) (fun c_102 => ?_) (fun c_102 => ?_)
                · skip
                  refine g_iconst (v := nI 1) h dX6_isInOrder_121 (by decide) ?_
                  refine g_goto h 126 dX6_isInOrder_122 (by decide) ?_
                  refine g_istore (lv' := [(0, _), (1, _), (2, _), (3, _), (4, _), (5, _), (6, _), (7, _), (8, _)]) h [1, 2, 3, 4, 5, 6, 0, 7, 8] dX6_isInOrder_126 (by decide) rfl ?_
                  refine g_aload_n h 0 dX6_isInOrder_128 rfl rfl ?_
                  refine g_get (C := RX6) (T := TX6) (N := 29) h 4 (wat_M E _) rfl in_X6_isInOrder_X6 (by decide) lk_X6_isInOrder_19 rfl rfl dX6_isInOrder_129 ?_
                  refine g_iload h 7 dX6_isInOrder_132 rfl ?_
                  refine g_iload_n h 1 dX6_isInOrder_134 rfl rfl ?_
                  refine g_callS (As := [.int (nI a34), .int (nI j)]) h 2 (c_X6_at l E _ a34 j (by omega) (by omega)) rfl gX6_isInOrder_X6_at rfl rfl rfl rfl (by decide +kernel) ⟨Nat.le_of_ble_eq_true rfl, Nat.le_of_ble_eq_true rfl⟩ dX6_isInOrder_135 ⟨Nat.le_refl _, Nat.le_refl _⟩ (Nat.le_of_ble_eq_true rfl) ?_
                  rintro _ _ ⟨rfl, hy⟩
                  obtain rfl := hy.symm
                  dsimp only [Option.toList, List.cons_append, List.nil_append]
                  refine g_iald (n := 64) h (wat_Y E _ (i := 3) (by decide)) (by omega) (by decide) dX6_isInOrder_138 ?_
                  refine g_istore (lv' := [(0, _), (1, _), (2, _), (3, _), (4, _), (5, _), (6, _), (7, _), (8, _)]) h [1, 2, 3, 4, 5, 0, 6, 7, 8] dX6_isInOrder_139 (by decide) rfl ?_
                  refine g_iinc (lv' := [(0, _), (1, _), (2, _), (3, _), (4, _), (5, _), (6, _), (7, .int (nI (a34 + 1))), (8, _)]) h 7 [1, 2, 3, 4, 5, 6, 7, 0, 8] dX6_isInOrder_141 rfl (nI_add _ 1) (by decide) rfl ?_
                  refine g_goto h 34 dX6_isInOrder_144 (by decide) ?_
                  refine g_lv (lv' := [(0, _), (1, _), (2, _), (3, _), (4, _), (5, _), (6, _), (7, _)]) [0, 1, 2, 3, 4, 5, 6, 7] rfl ?_
                  have hb34 : lp_X6_isInOrder_ok_34 x j (nI 0) (nI 0) (nI 0) ((-1 : Int32)) 1 (a34 + 1) = (_, _, _, _, _) := (Eq.trans (if_neg c_55) (Eq.trans (if_pos c_68) (Eq.trans (if_neg c_83) (Eq.trans (if_neg c_96) (if_pos c_102)))))
                  refine g_lvs (lv' := [(0, .ref (aM E)), (1, .int (nI j)), (2, .int ((lp_X6_isInOrder_ok_34 x j (nI 0) (nI 0) (nI 0) ((-1 : Int32)) 1 (a34 + 1)).1)), (3, .int ((lp_X6_isInOrder_ok_34 x j (nI 0) (nI 0) (nI 0) ((-1 : Int32)) 1 (a34 + 1)).2.1)), (4, .int ((lp_X6_isInOrder_ok_34 x j (nI 0) (nI 0) (nI 0) ((-1 : Int32)) 1 (a34 + 1)).2.2.1)), (5, .int ((lp_X6_isInOrder_ok_34 x j (nI 0) (nI 0) (nI 0) ((-1 : Int32)) 1 (a34 + 1)).2.2.2.1)), (6, .int (nI ((lp_X6_isInOrder_ok_34 x j (nI 0) (nI 0) (nI 0) ((-1 : Int32)) 1 (a34 + 1)).2.2.2.2))), (7, .int (nI (a34 + 1)))]) (by rw [hb34]) ?_
                  exact ih34 (a34 + 1) (by omega) (by omega)
                · skip
                  refine g_aload_n h 0 dX6_isInOrder_105 rfl rfl ?_
                  refine g_get (C := RX6) (T := TX6) (N := 29) h 4 (wat_M E _) rfl in_X6_isInOrder_X6 (by decide) lk_X6_isInOrder_19 rfl rfl dX6_isInOrder_106 ?_
                  refine g_iload h 7 dX6_isInOrder_109 rfl ?_
                  refine g_iload_n h 1 dX6_isInOrder_111 rfl rfl ?_
                  refine g_callS (As := [.int (nI a34), .int (nI j)]) h 2 (c_X6_at l E _ a34 j (by omega) (by omega)) rfl gX6_isInOrder_X6_at rfl rfl rfl rfl (by decide +kernel) ⟨Nat.le_of_ble_eq_true rfl, Nat.le_of_ble_eq_true rfl⟩ dX6_isInOrder_112 ⟨Nat.le_refl _, Nat.le_refl _⟩ (Nat.le_of_ble_eq_true rfl) ?_
                  rintro _ _ ⟨rfl, hy⟩
                  obtain rfl := hy.symm
                  dsimp only [Option.toList, List.cons_append, List.nil_append]
                  refine g_iald (n := 64) h (wat_Y E _ (i := 3) (by decide)) (by omega) (by decide) dX6_isInOrder_115 ?_
                  refine g_iload h 5 dX6_isInOrder_116 rfl ?_
                  refine g_icmp_ne h 125 dX6_isInOrder_118 (by decide) (fun c_118 => ?_) (fun c_118 => ?_)
                  · skip
                    refine g_iconst (v := nI 0) h dX6_isInOrder_125 (by decide) ?_
                    refine g_istore (lv' := [(0, _), (1, _), (2, _), (3, _), (4, _), (5, _), (6, _), (7, _), (8, _)]) h [1, 2, 3, 4, 5, 6, 0, 7, 8] dX6_isInOrder_126 (by decide) rfl ?_
                    refine g_aload_n h 0 dX6_isInOrder_128 rfl rfl ?_
                    refine g_get (C := RX6) (T := TX6) (N := 29) h 4 (wat_M E _) rfl in_X6_isInOrder_X6 (by decide) lk_X6_isInOrder_19 rfl rfl dX6_isInOrder_129 ?_
                    refine g_iload h 7 dX6_isInOrder_132 rfl ?_
                    refine g_iload_n h 1 dX6_isInOrder_134 rfl rfl ?_
                    refine g_callS (As := [.int (nI a34), .int (nI j)]) h 2 (c_X6_at l E _ a34 j (by omega) (by omega)) rfl gX6_isInOrder_X6_at rfl rfl rfl rfl (by decide +kernel) ⟨Nat.le_of_ble_eq_true rfl, Nat.le_of_ble_eq_true rfl⟩ dX6_isInOrder_135 ⟨Nat.le_refl _, Nat.le_refl _⟩ (Nat.le_of_ble_eq_true rfl) ?_
                    rintro _ _ ⟨rfl, hy⟩
                    obtain rfl := hy.symm
                    dsimp only [Option.toList, List.cons_append, List.nil_append]
                    refine g_iald (n := 64) h (wat_Y E _ (i := 3) (by decide)) (by omega) (by decide) dX6_isInOrder_138 ?_
                    refine g_istore (lv' := [(0, _), (1, _), (2, _), (3, _), (4, _), (5, _), (6, _), (7, _), (8, _)]) h [1, 2, 3, 4, 5, 0, 6, 7, 8] dX6_isInOrder_139 (by decide) rfl ?_
                    refine g_iinc (lv' := [(0, _), (1, _), (2, _), (3, _), (4, _), (5, _), (6, _), (7, .int (nI (a34 + 1))), (8, _)]) h 7 [1, 2, 3, 4, 5, 6, 7, 0, 8] dX6_isInOrder_141 rfl (nI_add _ 1) (by decide) rfl ?_
                    refine g_goto h 34 dX6_isInOrder_144 (by decide) ?_
                    refine g_lv (lv' := [(0, _), (1, _), (2, _), (3, _), (4, _), (5, _), (6, _), (7, _)]) [0, 1, 2, 3, 4, 5, 6, 7] rfl ?_
                    have hb34 : lp_X6_isInOrder_ok_34 x j (nI 0) (nI 0) (nI 0) ((-1 : Int32)) 1 (a34 + 1) = (_, _, _, _, _) := (Eq.trans (if_neg c_55) (Eq.trans (if_pos c_68) (Eq.trans (if_neg c_83) (Eq.trans (if_neg c_96) (Eq.trans (if_neg c_102) (if_neg c_118))))))
                    refine g_lvs (lv' := [(0, .ref (aM E)), (1, .int (nI j)), (2, .int ((lp_X6_isInOrder_ok_34 x j (nI 0) (nI 0) (nI 0) ((-1 : Int32)) 1 (a34 + 1)).1)), (3, .int ((lp_X6_isInOrder_ok_34 x j (nI 0) (nI 0) (nI 0) ((-1 : Int32)) 1 (a34 + 1)).2.1)), (4, .int ((lp_X6_isInOrder_ok_34 x j (nI 0) (nI 0) (nI 0) ((-1 : Int32)) 1 (a34 + 1)).2.2.1)), (5, .int ((lp_X6_isInOrder_ok_34 x j (nI 0) (nI 0) (nI 0) ((-1 : Int32)) 1 (a34 + 1)).2.2.2.1)), (6, .int (nI ((lp_X6_isInOrder_ok_34 x j (nI 0) (nI 0) (nI 0) ((-1 : Int32)) 1 (a34 + 1)).2.2.2.2))), (7, .int (nI (a34 + 1)))]) (by rw [hb34]) ?_
                    exact ih34 (a34 + 1) (by omega) (by omega)
                  · skip
                    refine g_iconst (v := nI 1) h dX6_isInOrder_121 (by decide) ?_
                    refine g_goto h 126 dX6_isInOrder_122 (by decide) ?_
                    refine g_istore (lv' := [(0, _), (1, _), (2, _), (3, _), (4, _), (5, _), (6, _), (7, _), (8, _)]) h [1, 2, 3, 4, 5, 6, 0, 7, 8] dX6_isInOrder_126 (by decide) rfl ?_
                    refine g_aload_n h 0 dX6_isInOrder_128 rfl rfl ?_
                    refine g_get (C := RX6) (T := TX6) (N := 29) h 4 (wat_M E _) rfl in_X6_isInOrder_X6 (by decide) lk_X6_isInOrder_19 rfl rfl dX6_isInOrder_129 ?_
                    refine g_iload h 7 dX6_isInOrder_132 rfl ?_
                    refine g_iload_n h 1 dX6_isInOrder_134 rfl rfl ?_
                    refine g_callS (As := [.int (nI a34), .int (nI j)]) h 2 (c_X6_at l E _ a34 j (by omega) (by omega)) rfl gX6_isInOrder_X6_at rfl rfl rfl rfl (by decide +kernel) ⟨Nat.le_of_ble_eq_true rfl, Nat.le_of_ble_eq_true rfl⟩ dX6_isInOrder_135 ⟨Nat.le_refl _, Nat.le_refl _⟩ (Nat.le_of_ble_eq_true rfl) ?_
                    rintro _ _ ⟨rfl, hy⟩
                    obtain rfl := hy.symm
                    dsimp only [Option.toList, List.cons_append, List.nil_append]
                    refine g_iald (n := 64) h (wat_Y E _ (i := 3) (by decide)) (by omega) (by decide) dX6_isInOrder_138 ?_
                    refine g_istore (lv' := [(0, _), (1, _), (2, _), (3, _), (4, _), (5, _), (6, _), (7, _), (8, _)]) h [1, 2, 3, 4, 5, 0, 6, 7, 8] dX6_isInOrder_139 (by decide) rfl ?_
                    refine g_iinc (lv' := [(0, _), (1, _), (2, _), (3, _), (4, _), (5, _), (6, _), (7, .int (nI (a34 + 1))), (8, _)]) h 7 [1, 2, 3, 4, 5, 6, 7, 0, 8] dX6_isInOrder_141 rfl (nI_add _ 1) (by decide) rfl ?_
                    refine g_goto h 34 dX6_isInOrder_144 (by decide) ?_
                    refine g_lv (lv' := [(0, _), (1, _), (2, _), (3, _), (4, _), (5, _), (6, _), (7, _)]) [0, 1, 2, 3, 4, 5, 6, 7] rfl ?_
                    have hb34 : lp_X6_isInOrder_ok_34 x j (nI 0) (nI 0) (nI 0) ((-1 : Int32)) 1 (a34 + 1) = (_, _, _, _, _) := (Eq.trans (if_neg c_55) (Eq.trans (if_pos c_68) (Eq.trans (if_neg c_83) (Eq.trans (if_neg c_96) (Eq.trans (if_neg c_102) (if_pos c_118))))))
                    refine g_lvs (lv' := [(0, .ref (aM E)), (1, .int (nI j)), (2, .int ((lp_X6_isInOrder_ok_34 x j (nI 0) (nI 0) (nI 0) ((-1 : Int32)) 1 (a34 + 1)).1)), (3, .int ((lp_X6_isInOrder_ok_34 x j (nI 0) (nI 0) (nI 0) ((-1 : Int32)) 1 (a34 + 1)).2.1)), (4, .int ((lp_X6_isInOrder_ok_34 x j (nI 0) (nI 0) (nI 0) ((-1 : Int32)) 1 (a34 + 1)).2.2.1)), (5, .int ((lp_X6_isInOrder_ok_34 x j (nI 0) (nI 0) (nI 0) ((-1 : Int32)) 1 (a34 + 1)).2.2.2.1)), (6, .int (nI ((lp_X6_isInOrder_ok_34 x j (nI 0) (nI 0) (nI 0) ((-1 : Int32)) 1 (a34 + 1)).2.2.2.2))), (7, .int (nI (a34 + 1)))]) (by rw [hb34]) ?_
                    exact ih34 (a34 + 1) (by omega) (by omega)
            · skip
              refine g_iconst (v := nI 1) h dX6_isInOrder_86 (by decide) ?_
              refine g_goto h 91 dX6_isInOrder_87 (by decide) ?_
              refine g_iadd h dX6_isInOrder_91 ?_
              refine g_istore (lv' := [(0, _), (1, _), (2, _), (3, _), (4, _), (5, _), (6, _), (7, _), (8, _)]) h [1, 2, 3, 4, 0, 5, 6, 7, 8] dX6_isInOrder_92 (by decide) rfl ?_
              refine g_iload h 6 dX6_isInOrder_94 rfl ?_
              refine g_if_eq h 125 dX6_isInOrder_96 (by decide) (fun c_96 => ?_) (fun c_96 => ?_)
              · skip
                refine g_iconst (v := nI 0) h dX6_isInOrder_125 (by decide) ?_
                refine g_istore (lv' := [(0, _), (1, _), (2, _), (3, _), (4, _), (5, _), (6, _), (7, _), (8, _)]) h [1, 2, 3, 4, 5, 6, 0, 7, 8] dX6_isInOrder_126 (by decide) rfl ?_
                refine g_aload_n h 0 dX6_isInOrder_128 rfl rfl ?_
                refine g_get (C := RX6) (T := TX6) (N := 29) h 4 (wat_M E _) rfl in_X6_isInOrder_X6 (by decide) lk_X6_isInOrder_19 rfl rfl dX6_isInOrder_129 ?_
                refine g_iload h 7 dX6_isInOrder_132 rfl ?_
                refine g_iload_n h 1 dX6_isInOrder_134 rfl rfl ?_
                refine g_callS (As := [.int (nI a34), .int (nI j)]) h 2 (c_X6_at l E _ a34 j (by omega) (by omega)) rfl gX6_isInOrder_X6_at rfl rfl rfl rfl (by decide +kernel) ⟨Nat.le_of_ble_eq_true rfl, Nat.le_of_ble_eq_true rfl⟩ dX6_isInOrder_135 ⟨Nat.le_refl _, Nat.le_refl _⟩ (Nat.le_of_ble_eq_true rfl) ?_
                rintro _ _ ⟨rfl, hy⟩
                obtain rfl := hy.symm
                dsimp only [Option.toList, List.cons_append, List.nil_append]
                refine g_iald (n := 64) h (wat_Y E _ (i := 3) (by decide)) (by omega) (by decide) dX6_isInOrder_138 ?_
                refine g_istore (lv' := [(0, _), (1, _), (2, _), (3, _), (4, _), (5, _), (6, _), (7, _), (8, _)]) h [1, 2, 3, 4, 5, 0, 6, 7, 8] dX6_isInOrder_139 (by decide) rfl ?_
                refine g_iinc (lv' := [(0, _), (1, _), (2, _), (3, _), (4, _), (5, _), (6, _), (7, .int (nI (a34 + 1))), (8, _)]) h 7 [1, 2, 3, 4, 5, 6, 7, 0, 8] dX6_isInOrder_141 rfl (nI_add _ 1) (by decide) rfl ?_
                refine g_goto h 34 dX6_isInOrder_144 (by decide) ?_
                refine g_lv (lv' := [(0, _), (1, _), (2, _), (3, _), (4, _), (5, _), (6, _), (7, _)]) [0, 1, 2, 3, 4, 5, 6, 7] rfl ?_
                have hb34 : lp_X6_isInOrder_ok_34 x j (nI 0) (nI 0) (nI 0) ((-1 : Int32)) 1 (a34 + 1) = (_, _, _, _, _) := (Eq.trans (if_neg c_55) (Eq.trans (if_pos c_68) (Eq.trans (if_pos c_83) (if_pos c_96))))
                refine g_lvs (lv' := [(0, .ref (aM E)), (1, .int (nI j)), (2, .int ((lp_X6_isInOrder_ok_34 x j (nI 0) (nI 0) (nI 0) ((-1 : Int32)) 1 (a34 + 1)).1)), (3, .int ((lp_X6_isInOrder_ok_34 x j (nI 0) (nI 0) (nI 0) ((-1 : Int32)) 1 (a34 + 1)).2.1)), (4, .int ((lp_X6_isInOrder_ok_34 x j (nI 0) (nI 0) (nI 0) ((-1 : Int32)) 1 (a34 + 1)).2.2.1)), (5, .int ((lp_X6_isInOrder_ok_34 x j (nI 0) (nI 0) (nI 0) ((-1 : Int32)) 1 (a34 + 1)).2.2.2.1)), (6, .int (nI ((lp_X6_isInOrder_ok_34 x j (nI 0) (nI 0) (nI 0) ((-1 : Int32)) 1 (a34 + 1)).2.2.2.2))), (7, .int (nI (a34 + 1)))]) (by rw [hb34]) ?_
                exact ih34 (a34 + 1) (by omega) (by omega)
              · skip
                refine g_iload h 5 dX6_isInOrder_99 rfl ?_
                refine g_iconst (v := -1) h dX6_isInOrder_101 (by decide) ?_
                refine g_icmp_eq h 121 dX6_isInOrder_102 (by decide) (fun c_102 => ?_) (fun c_102 => ?_)
                · skip
                  refine g_iconst (v := nI 1) h dX6_isInOrder_121 (by decide) ?_
                  refine g_goto h 126 dX6_isInOrder_122 (by decide) ?_
                  refine g_istore (lv' := [(0, _), (1, _), (2, _), (3, _), (4, _), (5, _), (6, _), (7, _), (8, _)]) h [1, 2, 3, 4, 5, 6, 0, 7, 8] dX6_isInOrder_126 (by decide) rfl ?_
                  refine g_aload_n h 0 dX6_isInOrder_128 rfl rfl ?_
                  refine g_get (C := RX6) (T := TX6) (N := 29) h 4 (wat_M E _) rfl in_X6_isInOrder_X6 (by decide) lk_X6_isInOrder_19 rfl rfl dX6_isInOrder_129 ?_
                  refine g_iload h 7 dX6_isInOrder_132 rfl ?_
                  refine g_iload_n h 1 dX6_isInOrder_134 rfl rfl ?_
                  refine g_callS (As := [.int (nI a34), .int (nI j)]) h 2 (c_X6_at l E _ a34 j (by omega) (by omega)) rfl gX6_isInOrder_X6_at rfl rfl rfl rfl (by decide +kernel) ⟨Nat.le_of_ble_eq_true rfl, Nat.le_of_ble_eq_true rfl⟩ dX6_isInOrder_135 ⟨Nat.le_refl _, Nat.le_refl _⟩ (Nat.le_of_ble_eq_true rfl) ?_
                  rintro _ _ ⟨rfl, hy⟩
                  obtain rfl := hy.symm
                  dsimp only [Option.toList, List.cons_append, List.nil_append]
                  refine g_iald (n := 64) h (wat_Y E _ (i := 3) (by decide)) (by omega) (by decide) dX6_isInOrder_138 ?_
                  refine g_istore (lv' := [(0, _), (1, _), (2, _), (3, _), (4, _), (5, _), (6, _), (7, _), (8, _)]) h [1, 2, 3, 4, 5, 0, 6, 7, 8] dX6_isInOrder_139 (by decide) rfl ?_
                  refine g_iinc (lv' := [(0, _), (1, _), (2, _), (3, _), (4, _), (5, _), (6, _), (7, .int (nI (a34 + 1))), (8, _)]) h 7 [1, 2, 3, 4, 5, 6, 7, 0, 8] dX6_isInOrder_141 rfl (nI_add _ 1) (by decide) rfl ?_
                  refine g_goto h 34 dX6_isInOrder_144 (by decide) ?_
                  refine g_lv (lv' := [(0, _), (1, _), (2, _), (3, _), (4, _), (5, _), (6, _), (7, _)]) [0, 1, 2, 3, 4, 5, 6, 7] rfl ?_
                  have hb34 : lp_X6_isInOrder_ok_34 x j (nI 0) (nI 0) (nI 0) ((-1 : Int32)) 1 (a34 + 1) = (_, _, _, _, _) := (Eq.trans (if_neg c_55) (Eq.trans (if_pos c_68) (Eq.trans (if_pos c_83) (Eq.trans (if_neg c_96) (if_pos c_102)))))
                  refine g_lvs (lv' := [(0, .ref (aM E)), (1, .int (nI j)), (2, .int ((lp_X6_isInOrder_ok_34 x j (nI 0) (nI 0) (nI 0) ((-1 : Int32)) 1 (a34 + 1)).1)), (3, .int ((lp_X6_isInOrder_ok_34 x j (nI 0) (nI 0) (nI 0) ((-1 : Int32)) 1 (a34 + 1)).2.1)), (4, .int ((lp_X6_isInOrder_ok_34 x j (nI 0) (nI 0) (nI 0) ((-1 : Int32)) 1 (a34 + 1)).2.2.1)), (5, .int ((lp_X6_isInOrder_ok_34 x j (nI 0) (nI 0) (nI 0) ((-1 : Int32)) 1 (a34 + 1)).2.2.2.1)), (6, .int (nI ((lp_X6_isInOrder_ok_34 x j (nI 0) (nI 0) (nI 0) ((-1 : Int32)) 1 (a34 + 1)).2.2.2.2))), (7, .int (nI (a34 + 1)))]) (by rw [hb34]) ?_
                  exact ih34 (a34 + 1) (by omega) (by omega)
                · skip
                  refine g_aload_n h 0 dX6_isInOrder_105 rfl rfl ?_
                  refine g_get (C := RX6) (T := TX6) (N := 29) h 4 (wat_M E _) rfl in_X6_isInOrder_X6 (by decide) lk_X6_isInOrder_19 rfl rfl dX6_isInOrder_106 ?_
                  refine g_iload h 7 dX6_isInOrder_109 rfl ?_
                  refine g_iload_n h 1 dX6_isInOrder_111 rfl rfl ?_
                  refine g_callS (As := [.int (nI a34), .int (nI j)]) h 2 (c_X6_at l E _ a34 j (by omega) (by omega)) rfl gX6_isInOrder_X6_at rfl rfl rfl rfl (by decide +kernel) ⟨Nat.le_of_ble_eq_true rfl, Nat.le_of_ble_eq_true rfl⟩ dX6_isInOrder_112 ⟨Nat.le_refl _, Nat.le_refl _⟩ (Nat.le_of_ble_eq_true rfl) ?_
                  rintro _ _ ⟨rfl, hy⟩
                  obtain rfl := hy.symm
                  dsimp only [Option.toList, List.cons_append, List.nil_append]
                  refine g_iald (n := 64) h (wat_Y E _ (i := 3) (by decide)) (by omega) (by decide) dX6_isInOrder_115 ?_
                  refine g_iload h 5 dX6_isInOrder_116 rfl ?_
                  refine g_icmp_ne h 125 dX6_isInOrder_118 (by decide) (fun c_118 => ?_) (fun c_118 => ?_)
                  · skip
                    refine g_iconst (v := nI 0) h dX6_isInOrder_125 (by decide) ?_
                    refine g_istore (lv' := [(0, _), (1, _), (2, _), (3, _), (4, _), (5, _), (6, _), (7, _), (8, _)]) h [1, 2, 3, 4, 5, 6, 0, 7, 8] dX6_isInOrder_126 (by decide) rfl ?_
                    refine g_aload_n h 0 dX6_isInOrder_128 rfl rfl ?_
                    refine g_get (C := RX6) (T := TX6) (N := 29) h 4 (wat_M E _) rfl in_X6_isInOrder_X6 (by decide) lk_X6_isInOrder_19 rfl rfl dX6_isInOrder_129 ?_
                    refine g_iload h 7 dX6_isInOrder_132 rfl ?_
                    refine g_iload_n h 1 dX6_isInOrder_134 rfl rfl ?_
                    refine g_callS (As := [.int (nI a34), .int (nI j)]) h 2 (c_X6_at l E _ a34 j (by omega) (by omega)) rfl gX6_isInOrder_X6_at rfl rfl rfl rfl (by decide +kernel) ⟨Nat.le_of_ble_eq_true rfl, Nat.le_of_ble_eq_true rfl⟩ dX6_isInOrder_135 ⟨Nat.le_refl _, Nat.le_refl _⟩ (Nat.le_of_ble_eq_true rfl) ?_
                    rintro _ _ ⟨rfl, hy⟩
                    obtain rfl := hy.symm
                    dsimp only [Option.toList, List.cons_append, List.nil_append]
                    refine g_iald (n := 64) h (wat_Y E _ (i := 3) (by decide)) (by omega) (by decide) dX6_isInOrder_138 ?_
                    refine g_istore (lv' := [(0, _), (1, _), (2, _), (3, _), (4, _), (5, _), (6, _), (7, _), (8, _)]) h [1, 2, 3, 4, 5, 0, 6, 7, 8] dX6_isInOrder_139 (by decide) rfl ?_
                    refine g_iinc (lv' := [(0, _), (1, _), (2, _), (3, _), (4, _), (5, _), (6, _), (7, .int (nI (a34 + 1))), (8, _)]) h 7 [1, 2, 3, 4, 5, 6, 7, 0, 8] dX6_isInOrder_141 rfl (nI_add _ 1) (by decide) rfl ?_
                    refine g_goto h 34 dX6_isInOrder_144 (by decide) ?_
                    refine g_lv (lv' := [(0, _), (1, _), (2, _), (3, _), (4, _), (5, _), (6, _), (7, _)]) [0, 1, 2, 3, 4, 5, 6, 7] rfl ?_
                    have hb34 : lp_X6_isInOrder_ok_34 x j (nI 0) (nI 0) (nI 0) ((-1 : Int32)) 1 (a34 + 1) = (_, _, _, _, _) := (Eq.trans (if_neg c_55) (Eq.trans (if_pos c_68) (Eq.trans (if_pos c_83) (Eq.trans (if_neg c_96) (Eq.trans (if_neg c_102) (if_neg c_118))))))
                    refine g_lvs (lv' := [(0, .ref (aM E)), (1, .int (nI j)), (2, .int ((lp_X6_isInOrder_ok_34 x j (nI 0) (nI 0) (nI 0) ((-1 : Int32)) 1 (a34 + 1)).1)), (3, .int ((lp_X6_isInOrder_ok_34 x j (nI 0) (nI 0) (nI 0) ((-1 : Int32)) 1 (a34 + 1)).2.1)), (4, .int ((lp_X6_isInOrder_ok_34 x j (nI 0) (nI 0) (nI 0) ((-1 : Int32)) 1 (a34 + 1)).2.2.1)), (5, .int ((lp_X6_isInOrder_ok_34 x j (nI 0) (nI 0) (nI 0) ((-1 : Int32)) 1 (a34 + 1)).2.2.2.1)), (6, .int (nI ((lp_X6_isInOrder_ok_34 x j (nI 0) (nI 0) (nI 0) ((-1 : Int32)) 1 (a34 + 1)).2.2.2.2))), (7, .int (nI (a34 + 1)))]) (by rw [hb34]) ?_
                    exact ih34 (a34 + 1) (by omega) (by omega)
                  · skip
                    refine g_iconst (v := nI 1) h dX6_isInOrder_121 (by decide) ?_
                    refine g_goto h 126 dX6_isInOrder_122 (by decide) ?_
                    refine g_istore (lv' := [(0, _), (1, _), (2, _), (3, _), (4, _), (5, _), (6, _), (7, _), (8, _)]) h [1, 2, 3, 4, 5, 6, 0, 7, 8] dX6_isInOrder_126 (by decide) rfl ?_
                    refine g_aload_n h 0 dX6_isInOrder_128 rfl rfl ?_
                    refine g_get (C := RX6) (T := TX6) (N := 29) h 4 (wat_M E _) rfl in_X6_isInOrder_X6 (by decide) lk_X6_isInOrder_19 rfl rfl dX6_isInOrder_129 ?_
                    refine g_iload h 7 dX6_isInOrder_132 rfl ?_
                    refine g_iload_n h 1 dX6_isInOrder_134 rfl rfl ?_
                    refine g_callS (As := [.int (nI a34), .int (nI j)]) h 2 (c_X6_at l E _ a34 j (by omega) (by omega)) rfl gX6_isInOrder_X6_at rfl rfl rfl rfl (by decide +kernel) ⟨Nat.le_of_ble_eq_true rfl, Nat.le_of_ble_eq_true rfl⟩ dX6_isInOrder_135 ⟨Nat.le_refl _, Nat.le_refl _⟩ (Nat.le_of_ble_eq_true rfl) ?_
                    rintro _ _ ⟨rfl, hy⟩
                    obtain rfl := hy.symm
                    dsimp only [Option.toList, List.cons_append, List.nil_append]
                    refine g_iald (n := 64) h (wat_Y E _ (i := 3) (by decide)) (by omega) (by decide) dX6_isInOrder_138 ?_
                    refine g_istore (lv' := [(0, _), (1, _), (2, _), (3, _), (4, _), (5, _), (6, _), (7, _), (8, _)]) h [1, 2, 3, 4, 5, 0, 6, 7, 8] dX6_isInOrder_139 (by decide) rfl ?_
                    refine g_iinc (lv' := [(0, _), (1, _), (2, _), (3, _), (4, _), (5, _), (6, _), (7, .int (nI (a34 + 1))), (8, _)]) h 7 [1, 2, 3, 4, 5, 6, 7, 0, 8] dX6_isInOrder_141 rfl (nI_add _ 1) (by decide) rfl ?_
                    refine g_goto h 34 dX6_isInOrder_144 (by decide) ?_
                    refine g_lv (lv' := [(0, _), (1, _), (2, _), (3, _), (4, _), (5, _), (6, _), (7, _)]) [0, 1, 2, 3, 4, 5, 6, 7] rfl ?_
                    have hb34 : lp_X6_isInOrder_ok_34 x j (nI 0) (nI 0) (nI 0) ((-1 : Int32)) 1 (a34 + 1) = (_, _, _, _, _) := (Eq.trans (if_neg c_55) (Eq.trans (if_pos c_68) (Eq.trans (if_pos c_83) (Eq.trans (if_neg c_96) (Eq.trans (if_neg c_102) (if_pos c_118))))))
                    refine g_lvs (lv' := [(0, .ref (aM E)), (1, .int (nI j)), (2, .int ((lp_X6_isInOrder_ok_34 x j (nI 0) (nI 0) (nI 0) ((-1 : Int32)) 1 (a34 + 1)).1)), (3, .int ((lp_X6_isInOrder_ok_34 x j (nI 0) (nI 0) (nI 0) ((-1 : Int32)) 1 (a34 + 1)).2.1)), (4, .int ((lp_X6_isInOrder_ok_34 x j (nI 0) (nI 0) (nI 0) ((-1 : Int32)) 1 (a34 + 1)).2.2.1)), (5, .int ((lp_X6_isInOrder_ok_34 x j (nI 0) (nI 0) (nI 0) ((-1 : Int32)) 1 (a34 + 1)).2.2.2.1)), (6, .int (nI ((lp_X6_isInOrder_ok_34 x j (nI 0) (nI 0) (nI 0) ((-1 : Int32)) 1 (a34 + 1)).2.2.2.2))), (7, .int (nI (a34 + 1)))]) (by rw [hb34]) ?_
                    exact ih34 (a34 + 1) (by omega) (by omega)
          · skip
            refine g_iconst (v := nI 1) h dX6_isInOrder_71 (by decide) ?_
            refine g_goto h 76 dX6_isInOrder_72 (by decide) ?_
            refine g_iadd h dX6_isInOrder_76 ?_
            refine g_istore_n (lv' := [(0, _), (1, _), (2, _), (3, _), (4, _), (5, _), (6, _), (7, _), (8, _)]) h [1, 2, 3, 0, 4, 5, 6, 7, 8] dX6_isInOrder_77 rfl (by decide) rfl ?_
            refine g_iload h 4 dX6_isInOrder_78 rfl ?_
            refine g_iload h 8 dX6_isInOrder_80 rfl ?_
            refine g_iconst (v := nI 3) h dX6_isInOrder_82 (by decide) ?_
            refine g_icmp_ne h 90 dX6_isInOrder_83 (by decide) (fun c_83 => ?_) (fun c_83 => ?_)
            · skip
              refine g_iconst (v := nI 0) h dX6_isInOrder_90 (by decide) ?_
              refine g_iadd h dX6_isInOrder_91 ?_
              refine g_istore (lv' := [(0, _), (1, _), (2, _), (3, _), (4, _), (5, _), (6, _), (7, _), (8, _)]) h [1, 2, 3, 4, 0, 5, 6, 7, 8] dX6_isInOrder_92 (by decide) rfl ?_
              refine g_iload h 6 dX6_isInOrder_94 rfl ?_
              refine g_if_eq h 125 dX6_isInOrder_96 (by decide) (fun c_96 => ?_) (fun c_96 => ?_)
              · skip
                refine g_iconst (v := nI 0) h dX6_isInOrder_125 (by decide) ?_
                refine g_istore (lv' := [(0, _), (1, _), (2, _), (3, _), (4, _), (5, _), (6, _), (7, _), (8, _)]) h [1, 2, 3, 4, 5, 6, 0, 7, 8] dX6_isInOrder_126 (by decide) rfl ?_
                refine g_aload_n h 0 dX6_isInOrder_128 rfl rfl ?_
                refine g_get (C := RX6) (T := TX6) (N := 29) h 4 (wat_M E _) rfl in_X6_isInOrder_X6 (by decide) lk_X6_isInOrder_19 rfl rfl dX6_isInOrder_129 ?_
                refine g_iload h 7 dX6_isInOrder_132 rfl ?_
                refine g_iload_n h 1 dX6_isInOrder_134 rfl rfl ?_
                refine g_callS (As := [.int (nI a34), .int (nI j)]) h 2 (c_X6_at l E _ a34 j (by omega) (by omega)) rfl gX6_isInOrder_X6_at rfl rfl rfl rfl (by decide +kernel) ⟨Nat.le_of_ble_eq_true rfl, Nat.le_of_ble_eq_true rfl⟩ dX6_isInOrder_135 ⟨Nat.le_refl _, Nat.le_refl _⟩ (Nat.le_of_ble_eq_true rfl) ?_
                rintro _ _ ⟨rfl, hy⟩
                obtain rfl := hy.symm
                dsimp only [Option.toList, List.cons_append, List.nil_append]
                refine g_iald (n := 64) h (wat_Y E _ (i := 3) (by decide)) (by omega) (by decide) dX6_isInOrder_138 ?_
                refine g_istore (lv' := [(0, _), (1, _), (2, _), (3, _), (4, _), (5, _), (6, _), (7, _), (8, _)]) h [1, 2, 3, 4, 5, 0, 6, 7, 8] dX6_isInOrder_139 (by decide) rfl ?_
                refine g_iinc (lv' := [(0, _), (1, _), (2, _), (3, _), (4, _), (5, _), (6, _), (7, .int (nI (a34 + 1))), (8, _)]) h 7 [1, 2, 3, 4, 5, 6, 7, 0, 8] dX6_isInOrder_141 rfl (nI_add _ 1) (by decide) rfl ?_
                refine g_goto h 34 dX6_isInOrder_144 (by decide) ?_
                refine g_lv (lv' := [(0, _), (1, _), (2, _), (3, _), (4, _), (5, _), (6, _), (7, _)]) [0, 1, 2, 3, 4, 5, 6, 7] rfl ?_
                have hb34 : lp_X6_isInOrder_ok_34 x j (nI 0) (nI 0) (nI 0) ((-1 : Int32)) 1 (a34 + 1) = (_, _, _, _, _) := (Eq.trans (if_neg c_55) (Eq.trans (if_neg c_68) (Eq.trans (if_neg c_83) (if_pos c_96))))
                refine g_lvs (lv' := [(0, .ref (aM E)), (1, .int (nI j)), (2, .int ((lp_X6_isInOrder_ok_34 x j (nI 0) (nI 0) (nI 0) ((-1 : Int32)) 1 (a34 + 1)).1)), (3, .int ((lp_X6_isInOrder_ok_34 x j (nI 0) (nI 0) (nI 0) ((-1 : Int32)) 1 (a34 + 1)).2.1)), (4, .int ((lp_X6_isInOrder_ok_34 x j (nI 0) (nI 0) (nI 0) ((-1 : Int32)) 1 (a34 + 1)).2.2.1)), (5, .int ((lp_X6_isInOrder_ok_34 x j (nI 0) (nI 0) (nI 0) ((-1 : Int32)) 1 (a34 + 1)).2.2.2.1)), (6, .int (nI ((lp_X6_isInOrder_ok_34 x j (nI 0) (nI 0) (nI 0) ((-1 : Int32)) 1 (a34 + 1)).2.2.2.2))), (7, .int (nI (a34 + 1)))]) (by rw [hb34]) ?_
                exact ih34 (a34 + 1) (by omega) (by omega)
              · skip
                refine g_iload h 5 dX6_isInOrder_99 rfl ?_
                refine g_iconst (v := -1) h dX6_isInOrder_101 (by decide) ?_
                refine g_icmp_eq h 121 dX6_isInOrder_102 (by decide) (fun c_102 => ?_) (fun c_102 => ?_)
                · skip
                  refine g_iconst (v := nI 1) h dX6_isInOrder_121 (by decide) ?_
                  refine g_goto h 126 dX6_isInOrder_122 (by decide) ?_
                  refine g_istore (lv' := [(0, _), (1, _), (2, _), (3, _), (4, _), (5, _), (6, _), (7, _), (8, _)]) h [1, 2, 3, 4, 5, 6, 0, 7, 8] dX6_isInOrder_126 (by decide) rfl ?_
                  refine g_aload_n h 0 dX6_isInOrder_128 rfl rfl ?_
                  refine g_get (C := RX6) (T := TX6) (N := 29) h 4 (wat_M E _) rfl in_X6_isInOrder_X6 (by decide) lk_X6_isInOrder_19 rfl rfl dX6_isInOrder_129 ?_
                  refine g_iload h 7 dX6_isInOrder_132 rfl ?_
                  refine g_iload_n h 1 dX6_isInOrder_134 rfl rfl ?_
                  refine g_callS (As := [.int (nI a34), .int (nI j)]) h 2 (c_X6_at l E _ a34 j (by omega) (by omega)) rfl gX6_isInOrder_X6_at rfl rfl rfl rfl (by decide +kernel) ⟨Nat.le_of_ble_eq_true rfl, Nat.le_of_ble_eq_true rfl⟩ dX6_isInOrder_135 ⟨Nat.le_refl _, Nat.le_refl _⟩ (Nat.le_of_ble_eq_true rfl) ?_
                  rintro _ _ ⟨rfl, hy⟩
                  obtain rfl := hy.symm
                  dsimp only [Option.toList, List.cons_append, List.nil_append]
                  refine g_iald (n := 64) h (wat_Y E _ (i := 3) (by decide)) (by omega) (by decide) dX6_isInOrder_138 ?_
                  refine g_istore (lv' := [(0, _), (1, _), (2, _), (3, _), (4, _), (5, _), (6, _), (7, _), (8, _)]) h [1, 2, 3, 4, 5, 0, 6, 7, 8] dX6_isInOrder_139 (by decide) rfl ?_
                  refine g_iinc (lv' := [(0, _), (1, _), (2, _), (3, _), (4, _), (5, _), (6, _), (7, .int (nI (a34 + 1))), (8, _)]) h 7 [1, 2, 3, 4, 5, 6, 7, 0, 8] dX6_isInOrder_141 rfl (nI_add _ 1) (by decide) rfl ?_
                  refine g_goto h 34 dX6_isInOrder_144 (by decide) ?_
                  refine g_lv (lv' := [(0, _), (1, _), (2, _), (3, _), (4, _), (5, _), (6, _), (7, _)]) [0, 1, 2, 3, 4, 5, 6, 7] rfl ?_
                  have hb34 : lp_X6_isInOrder_ok_34 x j (nI 0) (nI 0) (nI 0) ((-1 : Int32)) 1 (a34 + 1) = (_, _, _, _, _) := (Eq.trans (if_neg c_55) (Eq.trans (if_neg c_68) (Eq.trans (if_neg c_83) (Eq.trans (if_neg c_96) (if_pos c_102)))))
                  refine g_lvs (lv' := [(0, .ref (aM E)), (1, .int (nI j)), (2, .int ((lp_X6_isInOrder_ok_34 x j (nI 0) (nI 0) (nI 0) ((-1 : Int32)) 1 (a34 + 1)).1)), (3, .int ((lp_X6_isInOrder_ok_34 x j (nI 0) (nI 0) (nI 0) ((-1 : Int32)) 1 (a34 + 1)).2.1)), (4, .int ((lp_X6_isInOrder_ok_34 x j (nI 0) (nI 0) (nI 0) ((-1 : Int32)) 1 (a34 + 1)).2.2.1)), (5, .int ((lp_X6_isInOrder_ok_34 x j (nI 0) (nI 0) (nI 0) ((-1 : Int32)) 1 (a34 + 1)).2.2.2.1)), (6, .int (nI ((lp_X6_isInOrder_ok_34 x j (nI 0) (nI 0) (nI 0) ((-1 : Int32)) 1 (a34 + 1)).2.2.2.2))), (7, .int (nI (a34 + 1)))]) (by rw [hb34]) ?_
                  exact ih34 (a34 + 1) (by omega) (by omega)
                · skip
                  refine g_aload_n h 0 dX6_isInOrder_105 rfl rfl ?_
                  refine g_get (C := RX6) (T := TX6) (N := 29) h 4 (wat_M E _) rfl in_X6_isInOrder_X6 (by decide) lk_X6_isInOrder_19 rfl rfl dX6_isInOrder_106 ?_
                  refine g_iload h 7 dX6_isInOrder_109 rfl ?_
                  refine g_iload_n h 1 dX6_isInOrder_111 rfl rfl ?_
                  refine g_callS (As := [.int (nI a34), .int (nI j)]) h 2 (c_X6_at l E _ a34 j (by omega) (by omega)) rfl gX6_isInOrder_X6_at rfl rfl rfl rfl (by decide +kernel) ⟨Nat.le_of_ble_eq_true rfl, Nat.le_of_ble_eq_true rfl⟩ dX6_isInOrder_112 ⟨Nat.le_refl _, Nat.le_refl _⟩ (Nat.le_of_ble_eq_true rfl) ?_
                  rintro _ _ ⟨rfl, hy⟩
                  obtain rfl := hy.symm
                  dsimp only [Option.toList, List.cons_append, List.nil_append]
                  refine g_iald (n := 64) h (wat_Y E _ (i := 3) (by decide)) (by omega) (by decide) dX6_isInOrder_115 ?_
                  refine g_iload h 5 dX6_isInOrder_116 rfl ?_
                  refine g_icmp_ne h 125 dX6_isInOrder_118 (by decide) (fun c_118 => ?_) (fun c_118 => ?_)
                  · skip
                    refine g_iconst (v := nI 0) h dX6_isInOrder_125 (by decide) ?_
                    refine g_istore (lv' := [(0, _), (1, _), (2, _), (3, _), (4, _), (5, _), (6, _), (7, _), (8, _)]) h [1, 2, 3, 4, 5, 6, 0, 7, 8] dX6_isInOrder_126 (by decide) rfl ?_
                    refine g_aload_n h 0 dX6_isInOrder_128 rfl rfl ?_
                    refine g_get (C := RX6) (T := TX6) (N := 29) h 4 (wat_M E _) rfl in_X6_isInOrder_X6 (by decide) lk_X6_isInOrder_19 rfl rfl dX6_isInOrder_129 ?_
                    refine g_iload h 7 dX6_isInOrder_132 rfl ?_
                    refine g_iload_n h 1 dX6_isInOrder_134 rfl rfl ?_
                    refine g_callS (As := [.int (nI a34), .int (nI j)]) h 2 (c_X6_at l E _ a34 j (by omega) (by omega)) rfl gX6_isInOrder_X6_at rfl rfl rfl rfl (by decide +kernel) ⟨Nat.le_of_ble_eq_true rfl, Nat.le_of_ble_eq_true rfl⟩ dX6_isInOrder_135 ⟨Nat.le_refl _, Nat.le_refl _⟩ (Nat.le_of_ble_eq_true rfl) ?_
                    rintro _ _ ⟨rfl, hy⟩
                    obtain rfl := hy.symm
                    dsimp only [Option.toList, List.cons_append, List.nil_append]
                    refine g_iald (n := 64) h (wat_Y E _ (i := 3) (by decide)) (by omega) (by decide) dX6_isInOrder_138 ?_
                    refine g_istore (lv' := [(0, _), (1, _), (2, _), (3, _), (4, _), (5, _), (6, _), (7, _), (8, _)]) h [1, 2, 3, 4, 5, 0, 6, 7, 8] dX6_isInOrder_139 (by decide) rfl ?_
                    refine g_iinc (lv' := [(0, _), (1, _), (2, _), (3, _), (4, _), (5, _), (6, _), (7, .int (nI (a34 + 1))), (8, _)]) h 7 [1, 2, 3, 4, 5, 6, 7, 0, 8] dX6_isInOrder_141 rfl (nI_add _ 1) (by decide) rfl ?_
                    refine g_goto h 34 dX6_isInOrder_144 (by decide) ?_
                    refine g_lv (lv' := [(0, _), (1, _), (2, _), (3, _), (4, _), (5, _), (6, _), (7, _)]) [0, 1, 2, 3, 4, 5, 6, 7] rfl ?_
                    have hb34 : lp_X6_isInOrder_ok_34 x j (nI 0) (nI 0) (nI 0) ((-1 : Int32)) 1 (a34 + 1) = (_, _, _, _, _) := (Eq.trans (if_neg c_55) (Eq.trans (if_neg c_68) (Eq.trans (if_neg c_83) (Eq.trans (if_neg c_96) (Eq.trans (if_neg c_102) (if_neg c_118))))))
                    refine g_lvs (lv' := [(0, .ref (aM E)), (1, .int (nI j)), (2, .int ((lp_X6_isInOrder_ok_34 x j (nI 0) (nI 0) (nI 0) ((-1 : Int32)) 1 (a34 + 1)).1)), (3, .int ((lp_X6_isInOrder_ok_34 x j (nI 0) (nI 0) (nI 0) ((-1 : Int32)) 1 (a34 + 1)).2.1)), (4, .int ((lp_X6_isInOrder_ok_34 x j (nI 0) (nI 0) (nI 0) ((-1 : Int32)) 1 (a34 + 1)).2.2.1)), (5, .int ((lp_X6_isInOrder_ok_34 x j (nI 0) (nI 0) (nI 0) ((-1 : Int32)) 1 (a34 + 1)).2.2.2.1)), (6, .int (nI ((lp_X6_isInOrder_ok_34 x j (nI 0) (nI 0) (nI 0) ((-1 : Int32)) 1 (a34 + 1)).2.2.2.2))), (7, .int (nI (a34 + 1)))]) (by rw [hb34]) ?_
                    exact ih34 (a34 + 1) (by omega) (by omega)
                  · skip
                    refine g_iconst (v := nI 1) h dX6_isInOrder_121 (by decide) ?_
                    refine g_goto h 126 dX6_isInOrder_122 (by decide) ?_
                    refine g_istore (lv' := [(0, _), (1, _), (2, _), (3, _), (4, _), (5, _), (6, _), (7, _), (8, _)]) h [1, 2, 3, 4, 5, 6, 0, 7, 8] dX6_isInOrder_126 (by decide) rfl ?_
                    refine g_aload_n h 0 dX6_isInOrder_128 rfl rfl ?_
                    refine g_get (C := RX6) (T := TX6) (N := 29) h 4 (wat_M E _) rfl in_X6_isInOrder_X6 (by decide) lk_X6_isInOrder_19 rfl rfl dX6_isInOrder_129 ?_
                    refine g_iload h 7 dX6_isInOrder_132 rfl ?_
                    refine g_iload_n h 1 dX6_isInOrder_134 rfl rfl ?_
                    refine g_callS (As := [.int (nI a34), .int (nI j)]) h 2 (c_X6_at l E _ a34 j (by omega) (by omega)) rfl gX6_isInOrder_X6_at rfl rfl rfl rfl (by decide +kernel) ⟨Nat.le_of_ble_eq_true rfl, Nat.le_of_ble_eq_true rfl⟩ dX6_isInOrder_135 ⟨Nat.le_refl _, Nat.le_refl _⟩ (Nat.le_of_ble_eq_true rfl) ?_
                    rintro _ _ ⟨rfl, hy⟩
                    obtain rfl := hy.symm
                    dsimp only [Option.toList, List.cons_append, List.nil_append]
                    refine g_iald (n := 64) h (wat_Y E _ (i := 3) (by decide)) (by omega) (by decide) dX6_isInOrder_138 ?_
                    refine g_istore (lv' := [(0, _), (1, _), (2, _), (3, _), (4, _), (5, _), (6, _), (7, _), (8, _)]) h [1, 2, 3, 4, 5, 0, 6, 7, 8] dX6_isInOrder_139 (by decide) rfl ?_
                    refine g_iinc (lv' := [(0, _), (1, _), (2, _), (3, _), (4, _), (5, _), (6, _), (7, .int (nI (a34 + 1))), (8, _)]) h 7 [1, 2, 3, 4, 5, 6, 7, 0, 8] dX6_isInOrder_141 rfl (nI_add _ 1) (by decide) rfl ?_
                    refine g_goto h 34 dX6_isInOrder_144 (by decide) ?_
                    refine g_lv (lv' := [(0, _), (1, _), (2, _), (3, _), (4, _), (5, _), (6, _), (7, _)]) [0, 1, 2, 3, 4, 5, 6, 7] rfl ?_
                    have hb34 : lp_X6_isInOrder_ok_34 x j (nI 0) (nI 0) (nI 0) ((-1 : Int32)) 1 (a34 + 1) = (_, _, _, _, _) := (Eq.trans (if_neg c_55) (Eq.trans (if_neg c_68) (Eq.trans (if_neg c_83) (Eq.trans (if_neg c_96) (Eq.trans (if_neg c_102) (if_pos c_118))))))
                    refine g_lvs (lv' := [(0, .ref (aM E)), (1, .int (nI j)), (2, .int ((lp_X6_isInOrder_ok_34 x j (nI 0) (nI 0) (nI 0) ((-1 : Int32)) 1 (a34 + 1)).1)), (3, .int ((lp_X6_isInOrder_ok_34 x j (nI 0) (nI 0) (nI 0) ((-1 : Int32)) 1 (a34 + 1)).2.1)), (4, .int ((lp_X6_isInOrder_ok_34 x j (nI 0) (nI 0) (nI 0) ((-1 : Int32)) 1 (a34 + 1)).2.2.1)), (5, .int ((lp_X6_isInOrder_ok_34 x j (nI 0) (nI 0) (nI 0) ((-1 : Int32)) 1 (a34 + 1)).2.2.2.1)), (6, .int (nI ((lp_X6_isInOrder_ok_34 x j (nI 0) (nI 0) (nI 0) ((-1 : Int32)) 1 (a34 + 1)).2.2.2.2))), (7, .int (nI (a34 + 1)))]) (by rw [hb34]) ?_
                    exact ih34 (a34 + 1) (by omega) (by omega)
            · skip
              refine g_iconst (v := nI 1) h dX6_isInOrder_86 (by decide) ?_
              refine g_goto h 91 dX6_isInOrder_87 (by decide) ?_
              refine g_iadd h dX6_isInOrder_91 ?_
              refine g_istore (lv' := [(0, _), (1, _), (2, _), (3, _), (4, _), (5, _), (6, _), (7, _), (8, _)]) h [1, 2, 3, 4, 0, 5, 6, 7, 8] dX6_isInOrder_92 (by decide) rfl ?_
              refine g_iload h 6 dX6_isInOrder_94 rfl ?_
              refine g_if_eq h 125 dX6_isInOrder_96 (by decide) (fun c_96 => ?_) (fun c_96 => ?_)
              · skip
                refine g_iconst (v := nI 0) h dX6_isInOrder_125 (by decide) ?_
                refine g_istore (lv' := [(0, _), (1, _), (2, _), (3, _), (4, _), (5, _), (6, _), (7, _), (8, _)]) h [1, 2, 3, 4, 5, 6, 0, 7, 8] dX6_isInOrder_126 (by decide) rfl ?_
                refine g_aload_n h 0 dX6_isInOrder_128 rfl rfl ?_
                refine g_get (C := RX6) (T := TX6) (N := 29) h 4 (wat_M E _) rfl in_X6_isInOrder_X6 (by decide) lk_X6_isInOrder_19 rfl rfl dX6_isInOrder_129 ?_
                refine g_iload h 7 dX6_isInOrder_132 rfl ?_
                refine g_iload_n h 1 dX6_isInOrder_134 rfl rfl ?_
                refine g_callS (As := [.int (nI a34), .int (nI j)]) h 2 (c_X6_at l E _ a34 j (by omega) (by omega)) rfl gX6_isInOrder_X6_at rfl rfl rfl rfl (by decide +kernel) ⟨Nat.le_of_ble_eq_true rfl, Nat.le_of_ble_eq_true rfl⟩ dX6_isInOrder_135 ⟨Nat.le_refl _, Nat.le_refl _⟩ (Nat.le_of_ble_eq_true rfl) ?_
                rintro _ _ ⟨rfl, hy⟩
                obtain rfl := hy.symm
                dsimp only [Option.toList, List.cons_append, List.nil_append]
                refine g_iald (n := 64) h (wat_Y E _ (i := 3) (by decide)) (by omega) (by decide) dX6_isInOrder_138 ?_
                refine g_istore (lv' := [(0, _), (1, _), (2, _), (3, _), (4, _), (5, _), (6, _), (7, _), (8, _)]) h [1, 2, 3, 4, 5, 0, 6, 7, 8] dX6_isInOrder_139 (by decide) rfl ?_
                refine g_iinc (lv' := [(0, _), (1, _), (2, _), (3, _), (4, _), (5, _), (6, _), (7, .int (nI (a34 + 1))), (8, _)]) h 7 [1, 2, 3, 4, 5, 6, 7, 0, 8] dX6_isInOrder_141 rfl (nI_add _ 1) (by decide) rfl ?_
                refine g_goto h 34 dX6_isInOrder_144 (by decide) ?_
                refine g_lv (lv' := [(0, _), (1, _), (2, _), (3, _), (4, _), (5, _), (6, _), (7, _)]) [0, 1, 2, 3, 4, 5, 6, 7] rfl ?_
                have hb34 : lp_X6_isInOrder_ok_34 x j (nI 0) (nI 0) (nI 0) ((-1 : Int32)) 1 (a34 + 1) = (_, _, _, _, _) := (Eq.trans (if_neg c_55) (Eq.trans (if_neg c_68) (Eq.trans (if_pos c_83) (if_pos c_96))))
                refine g_lvs (lv' := [(0, .ref (aM E)), (1, .int (nI j)), (2, .int ((lp_X6_isInOrder_ok_34 x j (nI 0) (nI 0) (nI 0) ((-1 : Int32)) 1 (a34 + 1)).1)), (3, .int ((lp_X6_isInOrder_ok_34 x j (nI 0) (nI 0) (nI 0) ((-1 : Int32)) 1 (a34 + 1)).2.1)), (4, .int ((lp_X6_isInOrder_ok_34 x j (nI 0) (nI 0) (nI 0) ((-1 : Int32)) 1 (a34 + 1)).2.2.1)), (5, .int ((lp_X6_isInOrder_ok_34 x j (nI 0) (nI 0) (nI 0) ((-1 : Int32)) 1 (a34 + 1)).2.2.2.1)), (6, .int (nI ((lp_X6_isInOrder_ok_34 x j (nI 0) (nI 0) (nI 0) ((-1 : Int32)) 1 (a34 + 1)).2.2.2.2))), (7, .int (nI (a34 + 1)))]) (by rw [hb34]) ?_
                exact ih34 (a34 + 1) (by omega) (by omega)
              · skip
                refine g_iload h 5 dX6_isInOrder_99 rfl ?_
                refine g_iconst (v := -1) h dX6_isInOrder_101 (by decide) ?_
                refine g_icmp_eq h 121 dX6_isInOrder_102 (by decide) (fun c_102 => ?_) (fun c_102 => ?_)
                · skip
                  refine g_iconst (v := nI 1) h dX6_isInOrder_121 (by decide) ?_
                  refine g_goto h 126 dX6_isInOrder_122 (by decide) ?_
                  refine g_istore (lv' := [(0, _), (1, _), (2, _), (3, _), (4, _), (5, _), (6, _), (7, _), (8, _)]) h [1, 2, 3, 4, 5, 6, 0, 7, 8] dX6_isInOrder_126 (by decide) rfl ?_
                  refine g_aload_n h 0 dX6_isInOrder_128 rfl rfl ?_
                  refine g_get (C := RX6) (T := TX6) (N := 29) h 4 (wat_M E _) rfl in_X6_isInOrder_X6 (by decide) lk_X6_isInOrder_19 rfl rfl dX6_isInOrder_129 ?_
                  refine g_iload h 7 dX6_isInOrder_132 rfl ?_
                  refine g_iload_n h 1 dX6_isInOrder_134 rfl rfl ?_
                  refine g_callS (As := [.int (nI a34), .int (nI j)]) h 2 (c_X6_at l E _ a34 j (by omega) (by omega)) rfl gX6_isInOrder_X6_at rfl rfl rfl rfl (by decide +kernel) ⟨Nat.le_of_ble_eq_true rfl, Nat.le_of_ble_eq_true rfl⟩ dX6_isInOrder_135 ⟨Nat.le_refl _, Nat.le_refl _⟩ (Nat.le_of_ble_eq_true rfl) ?_
                  rintro _ _ ⟨rfl, hy⟩
                  obtain rfl := hy.symm
                  dsimp only [Option.toList, List.cons_append, List.nil_append]
                  refine g_iald (n := 64) h (wat_Y E _ (i := 3) (by decide)) (by omega) (by decide) dX6_isInOrder_138 ?_
                  refine g_istore (lv' := [(0, _), (1, _), (2, _), (3, _), (4, _), (5, _), (6, _), (7, _), (8, _)]) h [1, 2, 3, 4, 5, 0, 6, 7, 8] dX6_isInOrder_139 (by decide) rfl ?_
                  refine g_iinc (lv' := [(0, _), (1, _), (2, _), (3, _), (4, _), (5, _), (6, _), (7, .int (nI (a34 + 1))), (8, _)]) h 7 [1, 2, 3, 4, 5, 6, 7, 0, 8] dX6_isInOrder_141 rfl (nI_add _ 1) (by decide) rfl ?_
                  refine g_goto h 34 dX6_isInOrder_144 (by decide) ?_
                  refine g_lv (lv' := [(0, _), (1, _), (2, _), (3, _), (4, _), (5, _), (6, _), (7, _)]) [0, 1, 2, 3, 4, 5, 6, 7] rfl ?_
                  have hb34 : lp_X6_isInOrder_ok_34 x j (nI 0) (nI 0) (nI 0) ((-1 : Int32)) 1 (a34 + 1) = (_, _, _, _, _) := (Eq.trans (if_neg c_55) (Eq.trans (if_neg c_68) (Eq.trans (if_pos c_83) (Eq.trans (if_neg c_96) (if_pos c_102)))))
                  refine g_lvs (lv' := [(0, .ref (aM E)), (1, .int (nI j)), (2, .int ((lp_X6_isInOrder_ok_34 x j (nI 0) (nI 0) (nI 0) ((-1 : Int32)) 1 (a34 + 1)).1)), (3, .int ((lp_X6_isInOrder_ok_34 x j (nI 0) (nI 0) (nI 0) ((-1 : Int32)) 1 (a34 + 1)).2.1)), (4, .int ((lp_X6_isInOrder_ok_34 x j (nI 0) (nI 0) (nI 0) ((-1 : Int32)) 1 (a34 + 1)).2.2.1)), (5, .int ((lp_X6_isInOrder_ok_34 x j (nI 0) (nI 0) (nI 0) ((-1 : Int32)) 1 (a34 + 1)).2.2.2.1)), (6, .int (nI ((lp_X6_isInOrder_ok_34 x j (nI 0) (nI 0) (nI 0) ((-1 : Int32)) 1 (a34 + 1)).2.2.2.2))), (7, .int (nI (a34 + 1)))]) (by rw [hb34]) ?_
                  exact ih34 (a34 + 1) (by omega) (by omega)
                · skip
                  refine g_aload_n h 0 dX6_isInOrder_105 rfl rfl ?_
                  refine g_get (C := RX6) (T := TX6) (N := 29) h 4 (wat_M E _) rfl in_X6_isInOrder_X6 (by decide) lk_X6_isInOrder_19 rfl rfl dX6_isInOrder_106 ?_
                  refine g_iload h 7 dX6_isInOrder_109 rfl ?_
                  refine g_iload_n h 1 dX6_isInOrder_111 rfl rfl ?_
                  refine g_callS (As := [.int (nI a34), .int (nI j)]) h 2 (c_X6_at l E _ a34 j (by omega) (by omega)) rfl gX6_isInOrder_X6_at rfl rfl rfl rfl (by decide +kernel) ⟨Nat.le_of_ble_eq_true rfl, Nat.le_of_ble_eq_true rfl⟩ dX6_isInOrder_112 ⟨Nat.le_refl _, Nat.le_refl _⟩ (Nat.le_of_ble_eq_true rfl) ?_
                  rintro _ _ ⟨rfl, hy⟩
                  obtain rfl := hy.symm
                  dsimp only [Option.toList, List.cons_append, List.nil_append]
                  refine g_iald (n := 64) h (wat_Y E _ (i := 3) (by decide)) (by omega) (by decide) dX6_isInOrder_115 ?_
                  refine g_iload h 5 dX6_isInOrder_116 rfl ?_
                  refine g_icmp_ne h 125 dX6_isInOrder_118 (by decide) (fun c_118 => ?_) (fun c_118 => ?_)
                  · skip
                    refine g_iconst (v := nI 0) h dX6_isInOrder_125 (by decide) ?_
                    refine g_istore (lv' := [(0, _), (1, _), (2, _), (3, _), (4, _), (5, _), (6, _), (7, _), (8, _)]) h [1, 2, 3, 4, 5, 6, 0, 7, 8] dX6_isInOrder_126 (by decide) rfl ?_
                    refine g_aload_n h 0 dX6_isInOrder_128 rfl rfl ?_
                    refine g_get (C := RX6) (T := TX6) (N := 29) h 4 (wat_M E _) rfl in_X6_isInOrder_X6 (by decide) lk_X6_isInOrder_19 rfl rfl dX6_isInOrder_129 ?_
                    refine g_iload h 7 dX6_isInOrder_132 rfl ?_
                    refine g_iload_n h 1 dX6_isInOrder_134 rfl rfl ?_
                    refine g_callS (As := [.int (nI a34), .int (nI j)]) h 2 (c_X6_at l E _ a34 j (by omega) (by omega)) rfl gX6_isInOrder_X6_at rfl rfl rfl rfl (by decide +kernel) ⟨Nat.le_of_ble_eq_true rfl, Nat.le_of_ble_eq_true rfl⟩ dX6_isInOrder_135 ⟨Nat.le_refl _, Nat.le_refl _⟩ (Nat.le_of_ble_eq_true rfl) ?_
                    rintro _ _ ⟨rfl, hy⟩
                    obtain rfl := hy.symm
                    dsimp only [Option.toList, List.cons_append, List.nil_append]
                    refine g_iald (n := 64) h (wat_Y E _ (i := 3) (by decide)) (by omega) (by decide) dX6_isInOrder_138 ?_
                    refine g_istore (lv' := [(0, _), (1, _), (2, _), (3, _), (4, _), (5, _), (6, _), (7, _), (8, _)]) h [1, 2, 3, 4, 5, 0, 6, 7, 8] dX6_isInOrder_139 (by decide) rfl ?_
                    refine g_iinc (lv' := [(0, _), (1, _), (2, _), (3, _), (4, _), (5, _), (6, _), (7, .int (nI (a34 + 1))), (8, _)]) h 7 [1, 2, 3, 4, 5, 6, 7, 0, 8] dX6_isInOrder_141 rfl (nI_add _ 1) (by decide) rfl ?_
                    refine g_goto h 34 dX6_isInOrder_144 (by decide) ?_
                    refine g_lv (lv' := [(0, _), (1, _), (2, _), (3, _), (4, _), (5, _), (6, _), (7, _)]) [0, 1, 2, 3, 4, 5, 6, 7] rfl ?_
                    have hb34 : lp_X6_isInOrder_ok_34 x j (nI 0) (nI 0) (nI 0) ((-1 : Int32)) 1 (a34 + 1) = (_, _, _, _, _) := (Eq.trans (if_neg c_55) (Eq.trans (if_neg c_68) (Eq.trans (if_pos c_83) (Eq.trans (if_neg c_96) (Eq.trans (if_neg c_102) (if_neg c_118))))))
                    refine g_lvs (lv' := [(0, .ref (aM E)), (1, .int (nI j)), (2, .int ((lp_X6_isInOrder_ok_34 x j (nI 0) (nI 0) (nI 0) ((-1 : Int32)) 1 (a34 + 1)).1)), (3, .int ((lp_X6_isInOrder_ok_34 x j (nI 0) (nI 0) (nI 0) ((-1 : Int32)) 1 (a34 + 1)).2.1)), (4, .int ((lp_X6_isInOrder_ok_34 x j (nI 0) (nI 0) (nI 0) ((-1 : Int32)) 1 (a34 + 1)).2.2.1)), (5, .int ((lp_X6_isInOrder_ok_34 x j (nI 0) (nI 0) (nI 0) ((-1 : Int32)) 1 (a34 + 1)).2.2.2.1)), (6, .int (nI ((lp_X6_isInOrder_ok_34 x j (nI 0) (nI 0) (nI 0) ((-1 : Int32)) 1 (a34 + 1)).2.2.2.2))), (7, .int (nI (a34 + 1)))]) (by rw [hb34]) ?_
                    exact ih34 (a34 + 1) (by omega) (by omega)
                  · skip
                    refine g_iconst (v := nI 1) h dX6_isInOrder_121 (by decide) ?_
                    refine g_goto h 126 dX6_isInOrder_122 (by decide) ?_
                    refine g_istore (lv' := [(0, _), (1, _), (2, _), (3, _), (4, _), (5, _), (6, _), (7, _), (8, _)]) h [1, 2, 3, 4, 5, 6, 0, 7, 8] dX6_isInOrder_126 (by decide) rfl ?_
                    refine g_aload_n h 0 dX6_isInOrder_128 rfl rfl ?_
                    refine g_get (C := RX6) (T := TX6) (N := 29) h 4 (wat_M E _) rfl in_X6_isInOrder_X6 (by decide) lk_X6_isInOrder_19 rfl rfl dX6_isInOrder_129 ?_
                    refine g_iload h 7 dX6_isInOrder_132 rfl ?_
                    refine g_iload_n h 1 dX6_isInOrder_134 rfl rfl ?_
                    refine g_callS (As := [.int (nI a34), .int (nI j)]) h 2 (c_X6_at l E _ a34 j (by omega) (by omega)) rfl gX6_isInOrder_X6_at rfl rfl rfl rfl (by decide +kernel) ⟨Nat.le_of_ble_eq_true rfl, Nat.le_of_ble_eq_true rfl⟩ dX6_isInOrder_135 ⟨Nat.le_refl _, Nat.le_refl _⟩ (Nat.le_of_ble_eq_true rfl) ?_
                    rintro _ _ ⟨rfl, hy⟩
                    obtain rfl := hy.symm
                    dsimp only [Option.toList, List.cons_append, List.nil_append]
                    refine g_iald (n := 64) h (wat_Y E _ (i := 3) (by decide)) (by omega) (by decide) dX6_isInOrder_138 ?_
                    refine g_istore (lv' := [(0, _), (1, _), (2, _), (3, _), (4, _), (5, _), (6, _), (7, _), (8, _)]) h [1, 2, 3, 4, 5, 0, 6, 7, 8] dX6_isInOrder_139 (by decide) rfl ?_
                    refine g_iinc (lv' := [(0, _), (1, _), (2, _), (3, _), (4, _), (5, _), (6, _), (7, .int (nI (a34 + 1))), (8, _)]) h 7 [1, 2, 3, 4, 5, 6, 7, 0, 8] dX6_isInOrder_141 rfl (nI_add _ 1) (by decide) rfl ?_
                    refine g_goto h 34 dX6_isInOrder_144 (by decide) ?_
                    refine g_lv (lv' := [(0, _), (1, _), (2, _), (3, _), (4, _), (5, _), (6, _), (7, _)]) [0, 1, 2, 3, 4, 5, 6, 7] rfl ?_
                    have hb34 : lp_X6_isInOrder_ok_34 x j (nI 0) (nI 0) (nI 0) ((-1 : Int32)) 1 (a34 + 1) = (_, _, _, _, _) := (Eq.trans (if_neg c_55) (Eq.trans (if_neg c_68) (Eq.trans (if_pos c_83) (Eq.trans (if_neg c_96) (Eq.trans (if_neg c_102) (if_pos c_118))))))
                    refine g_lvs (lv' := [(0, .ref (aM E)), (1, .int (nI j)), (2, .int ((lp_X6_isInOrder_ok_34 x j (nI 0) (nI 0) (nI 0) ((-1 : Int32)) 1 (a34 + 1)).1)), (3, .int ((lp_X6_isInOrder_ok_34 x j (nI 0) (nI 0) (nI 0) ((-1 : Int32)) 1 (a34 + 1)).2.1)), (4, .int ((lp_X6_isInOrder_ok_34 x j (nI 0) (nI 0) (nI 0) ((-1 : Int32)) 1 (a34 + 1)).2.2.1)), (5, .int ((lp_X6_isInOrder_ok_34 x j (nI 0) (nI 0) (nI 0) ((-1 : Int32)) 1 (a34 + 1)).2.2.2.1)), (6, .int (nI ((lp_X6_isInOrder_ok_34 x j (nI 0) (nI 0) (nI 0) ((-1 : Int32)) 1 (a34 + 1)).2.2.2.2))), (7, .int (nI (a34 + 1)))]) (by rw [hb34]) ?_
                    exact ih34 (a34 + 1) (by omega) (by omega)
        · skip
          refine g_goto h 141 dX6_isInOrder_58 (by decide) ?_
          refine g_iinc (lv' := [(0, _), (1, _), (2, _), (3, _), (4, _), (5, _), (6, _), (7, .int (nI (a34 + 1))), (8, _)]) h 7 [1, 2, 3, 4, 5, 6, 7, 0, 8] dX6_isInOrder_141 rfl (nI_add _ 1) (by decide) rfl ?_
          refine g_goto h 34 dX6_isInOrder_144 (by decide) ?_
          refine g_lv (lv' := [(0, _), (1, _), (2, _), (3, _), (4, _), (5, _), (6, _), (7, _)]) [0, 1, 2, 3, 4, 5, 6, 7] rfl ?_
          have hb34 : lp_X6_isInOrder_ok_34 x j (nI 0) (nI 0) (nI 0) ((-1 : Int32)) 1 (a34 + 1) = (_, _, _, _, _) := (if_pos c_55)
          refine g_lvs (lv' := [(0, .ref (aM E)), (1, .int (nI j)), (2, .int ((lp_X6_isInOrder_ok_34 x j (nI 0) (nI 0) (nI 0) ((-1 : Int32)) 1 (a34 + 1)).1)), (3, .int ((lp_X6_isInOrder_ok_34 x j (nI 0) (nI 0) (nI 0) ((-1 : Int32)) 1 (a34 + 1)).2.1)), (4, .int ((lp_X6_isInOrder_ok_34 x j (nI 0) (nI 0) (nI 0) ((-1 : Int32)) 1 (a34 + 1)).2.2.1)), (5, .int ((lp_X6_isInOrder_ok_34 x j (nI 0) (nI 0) (nI 0) ((-1 : Int32)) 1 (a34 + 1)).2.2.2.1)), (6, .int (nI ((lp_X6_isInOrder_ok_34 x j (nI 0) (nI 0) (nI 0) ((-1 : Int32)) 1 (a34 + 1)).2.2.2.2))), (7, .int (nI (a34 + 1)))]) (by rw [hb34]) ?_
          exact ih34 (a34 + 1) (by omega) (by omega)
  exact loop34 (4 + 1) 0 (by omega) (by omega)
def s_X6_isInOrder_bl (x : St) (a : Int32) : St :=
  let x1 := x.setFM 0 (nI 0)
  let x2 := s_X6_failed x1 (nI 1)
  x2
set_option maxRecDepth 100000 in
set_option maxHeartbeats 400000 in
theorem c_X6_isInOrder_bl (l : Launch) (E : gE) (x : St) (a : Int32) (ha : badL a) : Ct l yX6_isInOrder wsX6_isInOrder { frames := 1, cells := 0, slots := 0, locals := 21 } E [.ref (aM E), .int a] x (fun v y => v = some (.int (nI 0)) ∧ y = s_X6_isInOrder_bl x a) 0 0 := by
  refine Ct.of (cc := cX6_isInOrder) (nL := 9) (ret := (some .boolean)) (by decide) rfl (Nat.le_of_ble_eq_true rfl) ?_
  intro p e s m args below meth c h hr hk hname
  refine g_lvs (lv' := [(0, _), (1, _)]) rfl ?_
  refine g_aload_n h 0 dX6_isInOrder_0 rfl rfl ?_
  refine g_iconst (v := nI 0) h dX6_isInOrder_1 (by decide) ?_
  refine g_put (C := RX6) (T := TX6) (N := 29) h 0 tyX6 (ws_M0 E _ _) rfl in_X6_isInOrder_X6 tyX6_ok nmX6 (by decide) lk_X6_isInOrder_83 rfl rfl rfl rfl rfl (Nat.le_of_ble_eq_true rfl) dX6_isInOrder_2 ?_
  refine g_iload_n h 1 dX6_isInOrder_5 rfl rfl ?_
  refine g_callS (As := [.int _]) h 1 (c_X6_isLine_f l E _ a ha) rfl gX6_isInOrder_X6_isLine rfl rfl rfl rfl (by decide +kernel) ⟨Nat.le_of_ble_eq_true rfl, Nat.le_of_ble_eq_true rfl⟩ dX6_isInOrder_6 ⟨Nat.le_refl _, Nat.le_refl _⟩ (Nat.le_of_ble_eq_true rfl) ?_
  rintro _ _ ⟨rfl, hy⟩
  obtain rfl := hy.symm
  dsimp only [Option.toList, List.cons_append, List.nil_append]
  refine g_if_ne h 18 dX6_isInOrder_9 (by decide) (fun c_9 => absurd c_9 (by decide)) (fun c_9 => ?_)
  refine g_aload_n h 0 dX6_isInOrder_12 rfl rfl ?_
  refine g_iconst (v := nI 1) h dX6_isInOrder_13 (by decide) ?_
  refine g_callV (As := [.int (nI 1)]) (C := RX6) h 1 (c_X6_failed l E _ 1) rfl gX6_isInOrder_X6_failed rfl rfl rfl rfl (by decide +kernel) ⟨Nat.le_of_ble_eq_true rfl, Nat.le_of_ble_eq_true rfl⟩ (wat_M E _) rfl rfl dX6_isInOrder_14 ⟨Nat.le_refl _, Nat.le_refl _⟩ (Nat.le_of_ble_eq_true rfl) ?_
  rintro _ _ ⟨rfl, hy⟩
  obtain rfl := hy.symm
  dsimp only [Option.toList, List.cons_append, List.nil_append]
  exact g_zret h hr hk (by decide) dX6_isInOrder_17 (Nat.zero_le _) (Nat.zero_le _) ⟨rfl, Eq.symm rfl⟩
theorem in_X6_digest_X6 : ∀ w ∈ wsX60, w ∈ wsX6_digest := by decide +kernel
theorem lk_X6_digest_83 : Cond.fieldLink RX6 83 "CacheDirectoryModel" "thrown" "I" ∈ wsX6_digest := by decide +kernel
theorem lk_X6_digest_94 : Cond.fieldLink RX6 94 "CacheDirectoryModel" "sent" "I" ∈ wsX6_digest := by decide +kernel
theorem lk_X6_digest_77 : Cond.fieldLink RX6 77 "CacheDirectoryModel" "messages" "[I" ∈ wsX6_digest := by decide +kernel
theorem lk_X6_digest_37 : Cond.fieldLink RX6 37 "CacheDirectoryModel" "openLines" "[I" ∈ wsX6_digest := by decide +kernel
theorem lk_X6_digest_59 : Cond.fieldLink RX6 59 "CacheDirectoryModel" "memory" "[I" ∈ wsX6_digest := by decide +kernel
theorem lk_X6_digest_62 : Cond.fieldLink RX6 62 "CacheDirectoryModel" "owners" "[I" ∈ wsX6_digest := by decide +kernel
theorem lk_X6_digest_65 : Cond.fieldLink RX6 65 "CacheDirectoryModel" "sharers" "[I" ∈ wsX6_digest := by decide +kernel
theorem lk_X6_digest_68 : Cond.fieldLink RX6 68 "CacheDirectoryModel" "isBusy" "[Z" ∈ wsX6_digest := by decide +kernel
theorem lk_X6_digest_74 : Cond.fieldLink RX6 74 "CacheDirectoryModel" "queued" "[I" ∈ wsX6_digest := by decide +kernel
theorem lk_X6_digest_16 : Cond.fieldLink RX6 16 "CacheDirectoryModel" "states" "[I" ∈ wsX6_digest := by decide +kernel
theorem lk_X6_digest_25 : Cond.fieldLink RX6 25 "CacheDirectoryModel" "victims" "[I" ∈ wsX6_digest := by decide +kernel
theorem lk_X6_digest_19 : Cond.fieldLink RX6 19 "CacheDirectoryModel" "values" "[I" ∈ wsX6_digest := by decide +kernel
def lp_X6_digest_212 (x : St) (a201 : Nat) (b212_0 : Int64) : Nat → Int64
  | 0 => b212_0
  | a212 + 1 =>
  (((lp_X6_digest_212 x a201 b212_0 a212)) * ((31 : Int64))) + ((((x.setFM 0 (nI 0))).AM 22 ((7 * a201) + a212)).toInt64)
def lp_X6_digest_201 (x : St)  (b201_0 : Int64) : Nat → Int64
  | 0 => b201_0
  | a201 + 1 =>
  (lp_X6_digest_212 x a201 ((lp_X6_digest_201 x b201_0 a201)) 4)
def lp_X6_digest_174 (x : St)  (b174_0 : Int64) : Nat → Int64
  | 0 => b174_0
  | a174 + 1 =>
  (((lp_X6_digest_174 x b174_0 a174)) * ((31 : Int64))) + ((((x.setFM 0 (nI 0))).AM 9 a174).toInt64)
def lp_X6_digest_91 (x : St) (a11 : Nat) (b91_0 : Int64) : Nat → Int64
  | 0 => b91_0
  | a91 + 1 =>
  if (((x.setFM 0 (nI 0))).AM 2 (16 * a91 + a11)) ≤ 0 then
    (((((((lp_X6_digest_91 x a11 b91_0 a91)) * ((31 : Int64))) + ((((x.setFM 0 (nI 0))).AM 2 (16 * a91 + a11)).toInt64)) * ((31 : Int64))) + (((-1 : Int32)).toInt64)) * ((31 : Int64))) + ((((x.setFM 0 (nI 0))).AM 5 (16 * a91 + a11)).toInt64)
  else
    (((((((lp_X6_digest_91 x a11 b91_0 a91)) * ((31 : Int64))) + ((((x.setFM 0 (nI 0))).AM 2 (16 * a91 + a11)).toInt64)) * ((31 : Int64))) + ((((x.setFM 0 (nI 0))).AM 3 (16 * a91 + a11)).toInt64)) * ((31 : Int64))) + ((((x.setFM 0 (nI 0))).AM 5 (16 * a91 + a11)).toInt64)
def lp_X6_digest_11 (x : St)  (b11_0 : Int64) : Nat → Int64
  | 0 => b11_0
  | a11 + 1 =>
  if (((x.setFM 0 (nI 0))).AM 19 a11) = 0 then
    (lp_X6_digest_91 x a11 ((((((((((((lp_X6_digest_11 x b11_0 a11)) * ((31 : Int64))) + ((((x.setFM 0 (nI 0))).AM 16 a11).toInt64)) * ((31 : Int64))) + ((((x.setFM 0 (nI 0))).AM 17 a11).toInt64)) * ((31 : Int64))) + ((((x.setFM 0 (nI 0))).AM 18 a11).toInt64)) * ((31 : Int64))) + ((0 : Int64))) * ((31 : Int64))) + ((((x.setFM 0 (nI 0))).AM 21 a11).toInt64)) 4)
  else
    (lp_X6_digest_91 x a11 ((((((((((((lp_X6_digest_11 x b11_0 a11)) * ((31 : Int64))) + ((((x.setFM 0 (nI 0))).AM 16 a11).toInt64)) * ((31 : Int64))) + ((((x.setFM 0 (nI 0))).AM 17 a11).toInt64)) * ((31 : Int64))) + ((((x.setFM 0 (nI 0))).AM 18 a11).toInt64)) * ((31 : Int64))) + ((1 : Int64))) * ((31 : Int64))) + ((((x.setFM 0 (nI 0))).AM 21 a11).toInt64)) 4)
def r_X6_digest (x : St)  : Int64 :=
  let x1 := x.setFM 0 (nI 0)
  (lp_X6_digest_201 x ((lp_X6_digest_174 x ((lp_X6_digest_11 x ((47 : Int64)) 16)) 4)) (nat ((x.setFM 0 (nI 0)).FM 4)))
def s_X6_digest (x : St)  : St :=
  let x1 := x.setFM 0 (nI 0)
  (x.setFM 0 (nI 0))
set_option maxRecDepth 100000 in
set_option maxHeartbeats 400000 in
theorem c_X6_digest (l : Launch) (E : gE) (x : St)  (hs : sOK x 0) : Ct l yX6_digest wsX6_digest { frames := 1, cells := 0, slots := 0, locals := 21 } E [.ref (aM E)] x (fun v y => v = some (.long (r_X6_digest x )) ∧ y = s_X6_digest x ) 0 0 := by
  refine Ct.of (cc := cX6_digest) (nL := 6) (ret := (some .long)) (by decide) rfl (Nat.le_of_ble_eq_true rfl) ?_
  intro p e s m args below meth c h hr hk hname
  refine g_lvs (lv' := [(0, _)]) rfl ?_
  have hs2 : nat ((x.setFM 0 (nI 0)).FM 4) + 0 ≤ 400 := (sOK_FM (by decide) hs).2
  refine g_aload_n h 0 dX6_digest_0 rfl rfl ?_
  refine g_iconst (v := nI 0) h dX6_digest_1 (by decide) ?_
  refine g_put (C := RX6) (T := TX6) (N := 29) h 0 tyX6 (ws_M0 E _ _) rfl in_X6_digest_X6 tyX6_ok nmX6 (by decide) lk_X6_digest_83 rfl rfl rfl rfl rfl (Nat.le_of_ble_eq_true rfl) dX6_digest_2 ?_
  refine g_ldc2_w (v := 47) h dX6_digest_5 (by decide +kernel) ?_
  refine g_lstore_n (lv' := [(0, _), (1, _)]) h [1, 0] dX6_digest_8 rfl (by decide) rfl ?_
  refine g_iconst (v := nI 0) h dX6_digest_9 (by decide) ?_
  refine g_istore_n (lv' := [(0, _), (1, _), (3, _)]) h [1, 2, 0] dX6_digest_10 rfl (by decide) rfl ?_
  have loop11 : ∀ (k11 a11 : Nat), (16) - a11 < k11 → a11 ≤ 16 → gG p l e ({ frames := 1, cells := 0, slots := 0, locals := 21 } : Room) s m args below meth c (gQ below E x s (fun v y => v = some (.long (r_X6_digest x )) ∧ y = s_X6_digest x ) args 0 0) E x 6 0 0 ((x.setFM 0 (nI 0))) 11 [(0, .ref (aM E)), (1, .long ((lp_X6_digest_11 x ((47 : Int64)) a11))), (3, .int (nI a11))] [] := by
    intro k11
    induction k11 with
    | zero => intro a11 hk11; exact absurd hk11 (by omega)
    | succ k11 ih11 =>
      intro a11 hk11 ha11
      refine g_iload_n h 2 dX6_digest_11 rfl rfl ?_
      refine g_bipush (v := nI 16) h dX6_digest_12 (by decide) ?_
      refine g_icmp_geN h 172 dX6_digest_14 (by decide) (by omega) (by omega) (fun c_14 => ?_) (fun c_14 => ?_)
      · skip
        obtain rfl : a11 = 16 := by omega
        refine g_iconst (v := nI 0) h dX6_digest_172 (by decide) ?_
        refine g_istore_n (lv' := [(0, _), (1, _), (3, _)]) h [1, 2, 0] dX6_digest_173 rfl (by decide) rfl ?_
        have loop174 : ∀ (k174 a174 : Nat), (4) - a174 < k174 → a174 ≤ 4 → gG p l e ({ frames := 1, cells := 0, slots := 0, locals := 21 } : Room) s m args below meth c (gQ below E x s (fun v y => v = some (.long (r_X6_digest x )) ∧ y = s_X6_digest x ) args 0 0) E x 6 0 0 ((x.setFM 0 (nI 0))) 174 [(0, .ref (aM E)), (1, .long ((lp_X6_digest_174 x ((lp_X6_digest_11 x ((47 : Int64)) 16)) a174))), (3, .int (nI a174))] [] := by
          intro k174
          induction k174 with
          | zero => intro a174 hk174; exact absurd hk174 (by omega)
          | succ k174 ih174 =>
            intro a174 hk174 ha174
            refine g_iload_n h 2 dX6_digest_174 rfl rfl ?_
            refine g_iconst (v := nI 4) h dX6_digest_175 (by decide) ?_
            refine g_icmp_geN h 199 dX6_digest_176 (by decide) (by omega) (by omega) (fun c_176 => ?_) (fun c_176 => ?_)
            · skip
              obtain rfl : a174 = 4 := by omega
              refine g_iconst (v := nI 0) h dX6_digest_199 (by decide) ?_
              refine g_istore_n (lv' := [(0, _), (1, _), (3, _)]) h [1, 2, 0] dX6_digest_200 rfl (by decide) rfl ?_
              have loop201 : ∀ (k201 a201 : Nat), (nat ((x.setFM 0 (nI 0)).FM 4)) - a201 < k201 → a201 ≤ nat ((x.setFM 0 (nI 0)).FM 4) → gG p l e ({ frames := 1, cells := 0, slots := 0, locals := 21 } : Room) s m args below meth c (gQ below E x s (fun v y => v = some (.long (r_X6_digest x )) ∧ y = s_X6_digest x ) args 0 0) E x 6 0 0 ((x.setFM 0 (nI 0))) 201 [(0, .ref (aM E)), (1, .long ((lp_X6_digest_201 x ((lp_X6_digest_174 x ((lp_X6_digest_11 x ((47 : Int64)) 16)) 4)) a201))), (3, .int (nI a201))] [] := by
                intro k201
                induction k201 with
                | zero => intro a201 hk201; exact absurd hk201 (by omega)
                | succ k201 ih201 =>
                  intro a201 hk201 ha201
                  refine g_iload_n h 2 dX6_digest_201 rfl rfl ?_
                  refine g_aload_n h 0 dX6_digest_202 rfl rfl ?_
                  refine g_get (C := RX6) (T := TX6) (N := 29) h 27 (wat_M E _) rfl in_X6_digest_X6 (by decide) lk_X6_digest_94 rfl rfl dX6_digest_203 ?_
                  refine g_eqi ((sOK_FM (by decide) hs)).1 ?_
                  refine g_icmp_geN h 250 dX6_digest_206 (by decide) (by omega) (by omega) (fun c_206 => ?_) (fun c_206 => ?_)
                  · skip
                    obtain rfl : a201 = nat ((x.setFM 0 (nI 0)).FM 4) := by omega
                    refine g_lload_n h 1 dX6_digest_250 rfl rfl ?_
                    exact g_lret h hr hk dX6_digest_251 (Nat.zero_le _) (Nat.zero_le _) ⟨congrArg (fun z => some (Value.long z)) (Eq.symm rfl), Eq.symm rfl⟩
                  · skip
                    have hlt_206 : a201 < nat ((x.setFM 0 (nI 0)).FM 4) := by omega
                    refine g_iconst (v := nI 0) h dX6_digest_209 (by decide) ?_
                    refine g_istore (lv' := [(0, _), (1, _), (3, _), (4, _)]) h [1, 2, 3, 0] dX6_digest_210 (by decide) rfl ?_
                    have loop212 : ∀ (k212 a212 : Nat), (4) - a212 < k212 → a212 ≤ 4 → gG p l e ({ frames := 1, cells := 0, slots := 0, locals := 21 } : Room) s m args below meth c (gQ below E x s (fun v y => v = some (.long (r_X6_digest x )) ∧ y = s_X6_digest x ) args 0 0) E x 6 0 0 ((x.setFM 0 (nI 0))) 212 [(0, .ref (aM E)), (1, .long ((lp_X6_digest_212 x a201 ((lp_X6_digest_201 x ((lp_X6_digest_174 x ((lp_X6_digest_11 x ((47 : Int64)) 16)) 4)) a201)) a212))), (3, .int (nI a201)), (4, .int (nI a212))] [] := by
                      intro k212
                      induction k212 with
                      | zero => intro a212 hk212; exact absurd hk212 (by omega)
                      | succ k212 ih212 =>
                        intro a212 hk212 ha212
                        refine g_iload h 3 dX6_digest_212 rfl ?_
                        refine g_iconst (v := nI 3) h dX6_digest_214 (by decide) ?_
                        refine g_icmp_gtN h 244 dX6_digest_215 (by decide) (by omega) (by omega) (fun c_215 => ?_) (fun c_215 => ?_)
                        · skip
                          obtain rfl : a212 = 4 := by omega
                          refine g_iinc (lv' := [(0, _), (1, _), (3, .int (nI (a201 + 1))), (4, _)]) h 2 [1, 2, 0, 3] dX6_digest_244 rfl (nI_add _ 1) (by decide) rfl ?_
                          refine g_goto h 201 dX6_digest_247 (by decide) ?_
                          refine g_lv (lv' := [(0, _), (1, _), (3, _)]) [0, 1, 2] rfl ?_
                          have hb201 : lp_X6_digest_201 x ((lp_X6_digest_174 x ((lp_X6_digest_11 x ((47 : Int64)) 16)) 4)) (a201 + 1) = (lp_X6_digest_212 x a201 ((lp_X6_digest_201 x ((lp_X6_digest_174 x ((lp_X6_digest_11 x ((47 : Int64)) 16)) 4)) a201)) 4) := rfl
                          refine g_lvs (lv' := [(0, .ref (aM E)), (1, .long ((lp_X6_digest_201 x ((lp_X6_digest_174 x ((lp_X6_digest_11 x ((47 : Int64)) 16)) 4)) (a201 + 1)))), (3, .int (nI (a201 + 1)))]) (by rw [hb201]) ?_
                          exact ih201 (a201 + 1) (by omega) (by omega)
                        · skip
                          have hlt_215 : a212 < 4 := by omega
                          refine g_lload_n h 1 dX6_digest_218 rfl rfl ?_
                          refine g_ldc2_w (v := 31) h dX6_digest_219 (by decide +kernel) ?_
                          refine g_lmul h dX6_digest_222 ?_
                          refine g_aload_n h 0 dX6_digest_223 rfl rfl ?_
                          refine g_get (C := RX6) (T := TX6) (N := 29) h 26 (wat_M E _) rfl in_X6_digest_X6 (by decide) lk_X6_digest_77 rfl rfl dX6_digest_224 ?_
                          refine g_bipush (v := nI 7) h dX6_digest_227 (by decide) ?_
                          refine g_iload_n h 2 dX6_digest_229 rfl rfl ?_
                          refine g_imulN h dX6_digest_230 ?_
                          refine g_iload h 3 dX6_digest_231 rfl ?_
                          refine g_iaddN h dX6_digest_233 ?_
                          refine g_iald (n := 2800) h (wat_Y E _ (i := 22) (by decide)) (by omega) (by decide) dX6_digest_234 ?_
                          refine g_i2l h dX6_digest_235 ?_
                          refine g_ladd h dX6_digest_236 ?_
                          refine g_lstore_n (lv' := [(0, _), (1, _), (3, _), (4, _)]) h [1, 0, 2, 3] dX6_digest_237 rfl (by decide) rfl ?_
                          refine g_iinc (lv' := [(0, _), (1, _), (3, _), (4, .int (nI (a212 + 1)))]) h 3 [1, 2, 3, 0] dX6_digest_238 rfl (nI_add _ 1) (by decide) rfl ?_
                          refine g_goto h 212 dX6_digest_241 (by decide) ?_
                          have hb212 : lp_X6_digest_212 x a201 ((lp_X6_digest_201 x ((lp_X6_digest_174 x ((lp_X6_digest_11 x ((47 : Int64)) 16)) 4)) a201)) (a212 + 1) = (((lp_X6_digest_212 x a201 ((lp_X6_digest_201 x ((lp_X6_digest_174 x ((lp_X6_digest_11 x ((47 : Int64)) 16)) 4)) a201)) a212)) * ((31 : Int64))) + ((((x.setFM 0 (nI 0))).AM 22 ((7 * a201) + a212)).toInt64) := rfl
                          refine g_lvs (lv' := [(0, .ref (aM E)), (1, .long ((lp_X6_digest_212 x a201 ((lp_X6_digest_201 x ((lp_X6_digest_174 x ((lp_X6_digest_11 x ((47 : Int64)) 16)) 4)) a201)) (a212 + 1)))), (3, .int (nI a201)), (4, .int (nI (a212 + 1)))]) (by rw [hb212]) ?_
                          exact ih212 (a212 + 1) (by omega) (by omega)
                    exact loop212 (4 + 1) 0 (by omega) (by omega)
              exact loop201 (nat ((x.setFM 0 (nI 0)).FM 4) + 1) 0 (by omega) (by omega)
            · skip
              have hlt_176 : a174 < 4 := by omega
              refine g_lload_n h 1 dX6_digest_179 rfl rfl ?_
              refine g_ldc2_w (v := 31) h dX6_digest_180 (by decide +kernel) ?_
              refine g_lmul h dX6_digest_183 ?_
              refine g_aload_n h 0 dX6_digest_184 rfl rfl ?_
              refine g_get (C := RX6) (T := TX6) (N := 29) h 11 (wat_M E _) rfl in_X6_digest_X6 (by decide) lk_X6_digest_37 rfl rfl dX6_digest_185 ?_
              refine g_iload_n h 2 dX6_digest_188 rfl rfl ?_
              refine g_iald (n := 4) h (wat_Y E _ (i := 9) (by decide)) (by omega) (by decide) dX6_digest_189 ?_
              refine g_i2l h dX6_digest_190 ?_
              refine g_ladd h dX6_digest_191 ?_
              refine g_lstore_n (lv' := [(0, _), (1, _), (3, _)]) h [1, 0, 2] dX6_digest_192 rfl (by decide) rfl ?_
              refine g_iinc (lv' := [(0, _), (1, _), (3, .int (nI (a174 + 1)))]) h 2 [1, 2, 0] dX6_digest_193 rfl (nI_add _ 1) (by decide) rfl ?_
              refine g_goto h 174 dX6_digest_196 (by decide) ?_
              have hb174 : lp_X6_digest_174 x ((lp_X6_digest_11 x ((47 : Int64)) 16)) (a174 + 1) = (((lp_X6_digest_174 x ((lp_X6_digest_11 x ((47 : Int64)) 16)) a174)) * ((31 : Int64))) + ((((x.setFM 0 (nI 0))).AM 9 a174).toInt64) := rfl
              refine g_lvs (lv' := [(0, .ref (aM E)), (1, .long ((lp_X6_digest_174 x ((lp_X6_digest_11 x ((47 : Int64)) 16)) (a174 + 1)))), (3, .int (nI (a174 + 1)))]) (by rw [hb174]) ?_
              exact ih174 (a174 + 1) (by omega) (by omega)
        exact loop174 (4 + 1) 0 (by omega) (by omega)
      · skip
        have hlt_14 : a11 < 16 := by omega
        refine g_lload_n h 1 dX6_digest_17 rfl rfl ?_
        refine g_ldc2_w (v := 31) h dX6_digest_18 (by decide +kernel) ?_
        refine g_lmul h dX6_digest_21 ?_
        refine g_aload_n h 0 dX6_digest_22 rfl rfl ?_
        refine g_get (C := RX6) (T := TX6) (N := 29) h 18 (wat_M E _) rfl in_X6_digest_X6 (by decide) lk_X6_digest_59 rfl rfl dX6_digest_23 ?_
        refine g_iload_n h 2 dX6_digest_26 rfl rfl ?_
        refine g_iald (n := 16) h (wat_Y E _ (i := 16) (by decide)) (by omega) (by decide) dX6_digest_27 ?_
        refine g_i2l h dX6_digest_28 ?_
        refine g_ladd h dX6_digest_29 ?_
        refine g_ldc2_w (v := 31) h dX6_digest_30 (by decide +kernel) ?_
        refine g_lmul h dX6_digest_33 ?_
        refine g_aload_n h 0 dX6_digest_34 rfl rfl ?_
        refine g_get (C := RX6) (T := TX6) (N := 29) h 19 (wat_M E _) rfl in_X6_digest_X6 (by decide) lk_X6_digest_62 rfl rfl dX6_digest_35 ?_
        refine g_iload_n h 2 dX6_digest_38 rfl rfl ?_
        refine g_iald (n := 16) h (wat_Y E _ (i := 17) (by decide)) (by omega) (by decide) dX6_digest_39 ?_
        refine g_i2l h dX6_digest_40 ?_
        refine g_ladd h dX6_digest_41 ?_
        refine g_ldc2_w (v := 31) h dX6_digest_42 (by decide +kernel) ?_
        refine g_lmul h dX6_digest_45 ?_
        refine g_aload_n h 0 dX6_digest_46 rfl rfl ?_
        refine g_get (C := RX6) (T := TX6) (N := 29) h 20 (wat_M E _) rfl in_X6_digest_X6 (by decide) lk_X6_digest_65 rfl rfl dX6_digest_47 ?_
        refine g_iload_n h 2 dX6_digest_50 rfl rfl ?_
        refine g_iald (n := 16) h (wat_Y E _ (i := 18) (by decide)) (by omega) (by decide) dX6_digest_51 ?_
        refine g_i2l h dX6_digest_52 ?_
        refine g_ladd h dX6_digest_53 ?_
        refine g_ldc2_w (v := 31) h dX6_digest_54 (by decide +kernel) ?_
        refine g_lmul h dX6_digest_57 ?_
        refine g_aload_n h 0 dX6_digest_58 rfl rfl ?_
        refine g_get (C := RX6) (T := TX6) (N := 29) h 21 (wat_M E _) rfl in_X6_digest_X6 (by decide) lk_X6_digest_68 rfl rfl dX6_digest_59 ?_
        refine g_iload_n h 2 dX6_digest_62 rfl rfl ?_
        refine g_zald (n := 16) h (wat_Y E _ (i := 19) (by decide)) (by omega) (by decide) dX6_digest_63 ?_
        refine g_if_eq h 71 dX6_digest_64 (by decide) (fun c_64 => ?_) (fun c_64 => ?_)
        · skip
          refine g_lconst (v := 0) h dX6_digest_71 (by decide) ?_
          refine g_ladd h dX6_digest_72 ?_
          refine g_lstore_n (lv' := [(0, _), (1, _), (3, _)]) h [1, 0, 2] dX6_digest_73 rfl (by decide) rfl ?_
          refine g_lload_n h 1 dX6_digest_74 rfl rfl ?_
          refine g_ldc2_w (v := 31) h dX6_digest_75 (by decide +kernel) ?_
          refine g_lmul h dX6_digest_78 ?_
          refine g_aload_n h 0 dX6_digest_79 rfl rfl ?_
          refine g_get (C := RX6) (T := TX6) (N := 29) h 23 (wat_M E _) rfl in_X6_digest_X6 (by decide) lk_X6_digest_74 rfl rfl dX6_digest_80 ?_
          refine g_iload_n h 2 dX6_digest_83 rfl rfl ?_
          refine g_iald (n := 16) h (wat_Y E _ (i := 21) (by decide)) (by omega) (by decide) dX6_digest_84 ?_
          refine g_i2l h dX6_digest_85 ?_
          refine g_ladd h dX6_digest_86 ?_
          refine g_lstore_n (lv' := [(0, _), (1, _), (3, _)]) h [1, 0, 2] dX6_digest_87 rfl (by decide) rfl ?_
          refine g_iconst (v := nI 0) h dX6_digest_88 (by decide) ?_
          refine g_istore (lv' := [(0, _), (1, _), (3, _), (4, _)]) h [1, 2, 3, 0] dX6_digest_89 (by decide) rfl ?_
          have loop91 : ∀ (k91 a91 : Nat), (4) - a91 < k91 → a91 ≤ 4 → gG p l e ({ frames := 1, cells := 0, slots := 0, locals := 21 } : Room) s m args below meth c (gQ below E x s (fun v y => v = some (.long (r_X6_digest x )) ∧ y = s_X6_digest x ) args 0 0) E x 6 0 0 ((x.setFM 0 (nI 0))) 91 [(0, .ref (aM E)), (1, .long ((lp_X6_digest_91 x a11 ((((((((((((lp_X6_digest_11 x ((47 : Int64)) a11)) * ((31 : Int64))) + ((((x.setFM 0 (nI 0))).AM 16 a11).toInt64)) * ((31 : Int64))) + ((((x.setFM 0 (nI 0))).AM 17 a11).toInt64)) * ((31 : Int64))) + ((((x.setFM 0 (nI 0))).AM 18 a11).toInt64)) * ((31 : Int64))) + ((0 : Int64))) * ((31 : Int64))) + ((((x.setFM 0 (nI 0))).AM 21 a11).toInt64)) a91))), (3, .int (nI a11)), (4, .int (nI a91))] [] := by
            intro k91
            induction k91 with
            | zero => intro a91 hk91; exact absurd hk91 (by omega)
            | succ k91 ih91 =>
              intro a91 hk91 ha91
              refine g_iload h 3 dX6_digest_91 rfl ?_
              refine g_iconst (v := nI 4) h dX6_digest_93 (by decide) ?_
              refine g_icmp_geN h 166 dX6_digest_94 (by decide) (by omega) (by omega) (fun c_94 => ?_) (fun c_94 => ?_)
              · skip
                obtain rfl : a91 = 4 := by omega
                refine g_iinc (lv' := [(0, _), (1, _), (3, .int (nI (a11 + 1))), (4, _)]) h 2 [1, 2, 0, 3] dX6_digest_166 rfl (nI_add _ 1) (by decide) rfl ?_
                refine g_goto h 11 dX6_digest_169 (by decide) ?_
                refine g_lv (lv' := [(0, _), (1, _), (3, _)]) [0, 1, 2] rfl ?_
                have hb11 : lp_X6_digest_11 x ((47 : Int64)) (a11 + 1) = _ := (if_pos c_64)
                refine g_lvs (lv' := [(0, .ref (aM E)), (1, .long ((lp_X6_digest_11 x ((47 : Int64)) (a11 + 1)))), (3, .int (nI (a11 + 1)))]) (by rw [hb11]) ?_
                exact ih11 (a11 + 1) (by omega) (by omega)
              · skip
                have hlt_94 : a91 < 4 := by omega
                refine g_iload h 3 dX6_digest_97 rfl ?_
                refine g_iload_n h 2 dX6_digest_99 rfl rfl ?_
                refine g_callS (As := [.int (nI a91), .int (nI a11)]) h 2 (c_X6_at l E _ a91 a11 (by omega) (by omega)) rfl gX6_digest_X6_at rfl rfl rfl rfl (by decide +kernel) ⟨Nat.le_of_ble_eq_true rfl, Nat.le_of_ble_eq_true rfl⟩ dX6_digest_100 ⟨Nat.le_refl _, Nat.le_refl _⟩ (Nat.le_of_ble_eq_true rfl) ?_
                rintro _ _ ⟨rfl, hy⟩
                obtain rfl := hy.symm
                dsimp only [Option.toList, List.cons_append, List.nil_append]
                refine g_istore (lv' := [(0, _), (1, _), (3, _), (4, _), (5, _)]) h [1, 2, 3, 4, 0] dX6_digest_103 (by decide) rfl ?_
                refine g_lload_n h 1 dX6_digest_105 rfl rfl ?_
                refine g_ldc2_w (v := 31) h dX6_digest_106 (by decide +kernel) ?_
                refine g_lmul h dX6_digest_109 ?_
                refine g_aload_n h 0 dX6_digest_110 rfl rfl ?_
                refine g_get (C := RX6) (T := TX6) (N := 29) h 3 (wat_M E _) rfl in_X6_digest_X6 (by decide) lk_X6_digest_16 rfl rfl dX6_digest_111 ?_
                refine g_iload h 4 dX6_digest_114 rfl ?_
                refine g_iald (n := 64) h (wat_Y E _ (i := 2) (by decide)) (by omega) (by decide) dX6_digest_116 ?_
                refine g_i2l h dX6_digest_117 ?_
                refine g_ladd h dX6_digest_118 ?_
                refine g_ldc2_w (v := 31) h dX6_digest_119 (by decide +kernel) ?_
                refine g_lmul h dX6_digest_122 ?_
                refine g_aload_n h 0 dX6_digest_123 rfl rfl ?_
                refine g_get (C := RX6) (T := TX6) (N := 29) h 3 (wat_M E _) rfl in_X6_digest_X6 (by decide) lk_X6_digest_16 rfl rfl dX6_digest_124 ?_
                refine g_iload h 4 dX6_digest_127 rfl ?_
                refine g_iald (n := 64) h (wat_Y E _ (i := 2) (by decide)) (by omega) (by decide) dX6_digest_129 ?_
                refine g_if_le h 143 dX6_digest_130 (by decide) (fun c_130 => ?_) (fun c_130 => ?_)
                · skip
                  refine g_iconst (v := -1) h dX6_digest_143 (by decide) ?_
                  refine g_i2l h dX6_digest_144 ?_
                  refine g_ladd h dX6_digest_145 ?_
                  refine g_ldc2_w (v := 31) h dX6_digest_146 (by decide +kernel) ?_
                  refine g_lmul h dX6_digest_149 ?_
                  refine g_aload_n h 0 dX6_digest_150 rfl rfl ?_
                  refine g_get (C := RX6) (T := TX6) (N := 29) h 6 (wat_M E _) rfl in_X6_digest_X6 (by decide) lk_X6_digest_25 rfl rfl dX6_digest_151 ?_
                  refine g_iload h 4 dX6_digest_154 rfl ?_
                  refine g_iald (n := 64) h (wat_Y E _ (i := 5) (by decide)) (by omega) (by decide) dX6_digest_156 ?_
                  refine g_i2l h dX6_digest_157 ?_
                  refine g_ladd h dX6_digest_158 ?_
                  refine g_lstore_n (lv' := [(0, _), (1, _), (3, _), (4, _), (5, _)]) h [1, 0, 2, 3, 4] dX6_digest_159 rfl (by decide) rfl ?_
                  refine g_iinc (lv' := [(0, _), (1, _), (3, _), (4, .int (nI (a91 + 1))), (5, _)]) h 3 [1, 2, 3, 0, 4] dX6_digest_160 rfl (nI_add _ 1) (by decide) rfl ?_
                  refine g_goto h 91 dX6_digest_163 (by decide) ?_
                  refine g_lv (lv' := [(0, _), (1, _), (3, _), (4, _)]) [0, 1, 2, 3] rfl ?_
                  have hb91 : lp_X6_digest_91 x a11 ((((((((((((lp_X6_digest_11 x ((47 : Int64)) a11)) * ((31 : Int64))) + ((((x.setFM 0 (nI 0))).AM 16 a11).toInt64)) * ((31 : Int64))) + ((((x.setFM 0 (nI 0))).AM 17 a11).toInt64)) * ((31 : Int64))) + ((((x.setFM 0 (nI 0))).AM 18 a11).toInt64)) * ((31 : Int64))) + ((0 : Int64))) * ((31 : Int64))) + ((((x.setFM 0 (nI 0))).AM 21 a11).toInt64)) (a91 + 1) = _ := (if_pos c_130)
                  refine g_lvs (lv' := [(0, .ref (aM E)), (1, .long ((lp_X6_digest_91 x a11 ((((((((((((lp_X6_digest_11 x ((47 : Int64)) a11)) * ((31 : Int64))) + ((((x.setFM 0 (nI 0))).AM 16 a11).toInt64)) * ((31 : Int64))) + ((((x.setFM 0 (nI 0))).AM 17 a11).toInt64)) * ((31 : Int64))) + ((((x.setFM 0 (nI 0))).AM 18 a11).toInt64)) * ((31 : Int64))) + ((0 : Int64))) * ((31 : Int64))) + ((((x.setFM 0 (nI 0))).AM 21 a11).toInt64)) (a91 + 1)))), (3, .int (nI a11)), (4, .int (nI (a91 + 1)))]) (by rw [hb91]) ?_
                  exact ih91 (a91 + 1) (by omega) (by omega)
                · skip
                  refine g_aload_n h 0 dX6_digest_133 rfl rfl ?_
                  refine g_get (C := RX6) (T := TX6) (N := 29) h 4 (wat_M E _) rfl in_X6_digest_X6 (by decide) lk_X6_digest_19 rfl rfl dX6_digest_134 ?_
                  refine g_iload h 4 dX6_digest_137 rfl ?_
                  refine g_iald (n := 64) h (wat_Y E _ (i := 3) (by decide)) (by omega) (by decide) dX6_digest_139 ?_
                  refine g_goto h 144 dX6_digest_140 (by decide) ?_
                  refine g_i2l h dX6_digest_144 ?_
                  refine g_ladd h dX6_digest_145 ?_
                  refine g_ldc2_w (v := 31) h dX6_digest_146 (by decide +kernel) ?_
                  refine g_lmul h dX6_digest_149 ?_
                  refine g_aload_n h 0 dX6_digest_150 rfl rfl ?_
                  refine g_get (C := RX6) (T := TX6) (N := 29) h 6 (wat_M E _) rfl in_X6_digest_X6 (by decide) lk_X6_digest_25 rfl rfl dX6_digest_151 ?_
                  refine g_iload h 4 dX6_digest_154 rfl ?_
                  refine g_iald (n := 64) h (wat_Y E _ (i := 5) (by decide)) (by omega) (by decide) dX6_digest_156 ?_
                  refine g_i2l h dX6_digest_157 ?_
                  refine g_ladd h dX6_digest_158 ?_
                  refine g_lstore_n (lv' := [(0, _), (1, _), (3, _), (4, _), (5, _)]) h [1, 0, 2, 3, 4] dX6_digest_159 rfl (by decide) rfl ?_
                  refine g_iinc (lv' := [(0, _), (1, _), (3, _), (4, .int (nI (a91 + 1))), (5, _)]) h 3 [1, 2, 3, 0, 4] dX6_digest_160 rfl (nI_add _ 1) (by decide) rfl ?_
                  refine g_goto h 91 dX6_digest_163 (by decide) ?_
                  refine g_lv (lv' := [(0, _), (1, _), (3, _), (4, _)]) [0, 1, 2, 3] rfl ?_
                  have hb91 : lp_X6_digest_91 x a11 ((((((((((((lp_X6_digest_11 x ((47 : Int64)) a11)) * ((31 : Int64))) + ((((x.setFM 0 (nI 0))).AM 16 a11).toInt64)) * ((31 : Int64))) + ((((x.setFM 0 (nI 0))).AM 17 a11).toInt64)) * ((31 : Int64))) + ((((x.setFM 0 (nI 0))).AM 18 a11).toInt64)) * ((31 : Int64))) + ((0 : Int64))) * ((31 : Int64))) + ((((x.setFM 0 (nI 0))).AM 21 a11).toInt64)) (a91 + 1) = _ := (if_neg c_130)
                  refine g_lvs (lv' := [(0, .ref (aM E)), (1, .long ((lp_X6_digest_91 x a11 ((((((((((((lp_X6_digest_11 x ((47 : Int64)) a11)) * ((31 : Int64))) + ((((x.setFM 0 (nI 0))).AM 16 a11).toInt64)) * ((31 : Int64))) + ((((x.setFM 0 (nI 0))).AM 17 a11).toInt64)) * ((31 : Int64))) + ((((x.setFM 0 (nI 0))).AM 18 a11).toInt64)) * ((31 : Int64))) + ((0 : Int64))) * ((31 : Int64))) + ((((x.setFM 0 (nI 0))).AM 21 a11).toInt64)) (a91 + 1)))), (3, .int (nI a11)), (4, .int (nI (a91 + 1)))]) (by rw [hb91]) ?_
                  exact ih91 (a91 + 1) (by omega) (by omega)
          exact loop91 (4 + 1) 0 (by omega) (by omega)
        · skip
          refine g_lconst (v := 1) h dX6_digest_67 (by decide) ?_
          refine g_goto h 72 dX6_digest_68 (by decide) ?_
          refine g_ladd h dX6_digest_72 ?_
          refine g_lstore_n (lv' := [(0, _), (1, _), (3, _)]) h [1, 0, 2] dX6_digest_73 rfl (by decide) rfl ?_
          refine g_lload_n h 1 dX6_digest_74 rfl rfl ?_
          refine g_ldc2_w (v := 31) h dX6_digest_75 (by decide +kernel) ?_
          refine g_lmul h dX6_digest_78 ?_
          refine g_aload_n h 0 dX6_digest_79 rfl rfl ?_
          refine g_get (C := RX6) (T := TX6) (N := 29) h 23 (wat_M E _) rfl in_X6_digest_X6 (by decide) lk_X6_digest_74 rfl rfl dX6_digest_80 ?_
          refine g_iload_n h 2 dX6_digest_83 rfl rfl ?_
          refine g_iald (n := 16) h (wat_Y E _ (i := 21) (by decide)) (by omega) (by decide) dX6_digest_84 ?_
          refine g_i2l h dX6_digest_85 ?_
          refine g_ladd h dX6_digest_86 ?_
          refine g_lstore_n (lv' := [(0, _), (1, _), (3, _)]) h [1, 0, 2] dX6_digest_87 rfl (by decide) rfl ?_
          refine g_iconst (v := nI 0) h dX6_digest_88 (by decide) ?_
          refine g_istore (lv' := [(0, _), (1, _), (3, _), (4, _)]) h [1, 2, 3, 0] dX6_digest_89 (by decide) rfl ?_
          have loop91 : ∀ (k91 a91 : Nat), (4) - a91 < k91 → a91 ≤ 4 → gG p l e ({ frames := 1, cells := 0, slots := 0, locals := 21 } : Room) s m args below meth c (gQ below E x s (fun v y => v = some (.long (r_X6_digest x )) ∧ y = s_X6_digest x ) args 0 0) E x 6 0 0 ((x.setFM 0 (nI 0))) 91 [(0, .ref (aM E)), (1, .long ((lp_X6_digest_91 x a11 ((((((((((((lp_X6_digest_11 x ((47 : Int64)) a11)) * ((31 : Int64))) + ((((x.setFM 0 (nI 0))).AM 16 a11).toInt64)) * ((31 : Int64))) + ((((x.setFM 0 (nI 0))).AM 17 a11).toInt64)) * ((31 : Int64))) + ((((x.setFM 0 (nI 0))).AM 18 a11).toInt64)) * ((31 : Int64))) + ((1 : Int64))) * ((31 : Int64))) + ((((x.setFM 0 (nI 0))).AM 21 a11).toInt64)) a91))), (3, .int (nI a11)), (4, .int (nI a91))] [] := by
            intro k91
            induction k91 with
            | zero => intro a91 hk91; exact absurd hk91 (by omega)
            | succ k91 ih91 =>
              intro a91 hk91 ha91
              refine g_iload h 3 dX6_digest_91 rfl ?_
              refine g_iconst (v := nI 4) h dX6_digest_93 (by decide) ?_
              refine g_icmp_geN h 166 dX6_digest_94 (by decide) (by omega) (by omega) (fun c_94 => ?_) (fun c_94 => ?_)
              · skip
                obtain rfl : a91 = 4 := by omega
                refine g_iinc (lv' := [(0, _), (1, _), (3, .int (nI (a11 + 1))), (4, _)]) h 2 [1, 2, 0, 3] dX6_digest_166 rfl (nI_add _ 1) (by decide) rfl ?_
                refine g_goto h 11 dX6_digest_169 (by decide) ?_
                refine g_lv (lv' := [(0, _), (1, _), (3, _)]) [0, 1, 2] rfl ?_
                have hb11 : lp_X6_digest_11 x ((47 : Int64)) (a11 + 1) = _ := (if_neg c_64)
                refine g_lvs (lv' := [(0, .ref (aM E)), (1, .long ((lp_X6_digest_11 x ((47 : Int64)) (a11 + 1)))), (3, .int (nI (a11 + 1)))]) (by rw [hb11]) ?_
                exact ih11 (a11 + 1) (by omega) (by omega)
              · skip
                have hlt_94 : a91 < 4 := by omega
                refine g_iload h 3 dX6_digest_97 rfl ?_
                refine g_iload_n h 2 dX6_digest_99 rfl rfl ?_
                refine g_callS (As := [.int (nI a91), .int (nI a11)]) h 2 (c_X6_at l E _ a91 a11 (by omega) (by omega)) rfl gX6_digest_X6_at rfl rfl rfl rfl (by decide +kernel) ⟨Nat.le_of_ble_eq_true rfl, Nat.le_of_ble_eq_true rfl⟩ dX6_digest_100 ⟨Nat.le_refl _, Nat.le_refl _⟩ (Nat.le_of_ble_eq_true rfl) ?_
                rintro _ _ ⟨rfl, hy⟩
                obtain rfl := hy.symm
                dsimp only [Option.toList, List.cons_append, List.nil_append]
                refine g_istore (lv' := [(0, _), (1, _), (3, _), (4, _), (5, _)]) h [1, 2, 3, 4, 0] dX6_digest_103 (by decide) rfl ?_
                refine g_lload_n h 1 dX6_digest_105 rfl rfl ?_
                refine g_ldc2_w (v := 31) h dX6_digest_106 (by decide +kernel) ?_
                refine g_lmul h dX6_digest_109 ?_
                refine g_aload_n h 0 dX6_digest_110 rfl rfl ?_
                refine g_get (C := RX6) (T := TX6) (N := 29) h 3 (wat_M E _) rfl in_X6_digest_X6 (by decide) lk_X6_digest_16 rfl rfl dX6_digest_111 ?_
                refine g_iload h 4 dX6_digest_114 rfl ?_
                refine g_iald (n := 64) h (wat_Y E _ (i := 2) (by decide)) (by omega) (by decide) dX6_digest_116 ?_
                refine g_i2l h dX6_digest_117 ?_
                refine g_ladd h dX6_digest_118 ?_
                refine g_ldc2_w (v := 31) h dX6_digest_119 (by decide +kernel) ?_
                refine g_lmul h dX6_digest_122 ?_
                refine g_aload_n h 0 dX6_digest_123 rfl rfl ?_
                refine g_get (C := RX6) (T := TX6) (N := 29) h 3 (wat_M E _) rfl in_X6_digest_X6 (by decide) lk_X6_digest_16 rfl rfl dX6_digest_124 ?_
                refine g_iload h 4 dX6_digest_127 rfl ?_
                refine g_iald (n := 64) h (wat_Y E _ (i := 2) (by decide)) (by omega) (by decide) dX6_digest_129 ?_
                refine g_if_le h 143 dX6_digest_130 (by decide) (fun c_130 => ?_) (fun c_130 => ?_)
                · skip
                  refine g_iconst (v := -1) h dX6_digest_143 (by decide) ?_
                  refine g_i2l h dX6_digest_144 ?_
                  refine g_ladd h dX6_digest_145 ?_
                  refine g_ldc2_w (v := 31) h dX6_digest_146 (by decide +kernel) ?_
                  refine g_lmul h dX6_digest_149 ?_
                  refine g_aload_n h 0 dX6_digest_150 rfl rfl ?_
                  refine g_get (C := RX6) (T := TX6) (N := 29) h 6 (wat_M E _) rfl in_X6_digest_X6 (by decide) lk_X6_digest_25 rfl rfl dX6_digest_151 ?_
                  refine g_iload h 4 dX6_digest_154 rfl ?_
                  refine g_iald (n := 64) h (wat_Y E _ (i := 5) (by decide)) (by omega) (by decide) dX6_digest_156 ?_
                  refine g_i2l h dX6_digest_157 ?_
                  refine g_ladd h dX6_digest_158 ?_
                  refine g_lstore_n (lv' := [(0, _), (1, _), (3, _), (4, _), (5, _)]) h [1, 0, 2, 3, 4] dX6_digest_159 rfl (by decide) rfl ?_
                  refine g_iinc (lv' := [(0, _), (1, _), (3, _), (4, .int (nI (a91 + 1))), (5, _)]) h 3 [1, 2, 3, 0, 4] dX6_digest_160 rfl (nI_add _ 1) (by decide) rfl ?_
                  refine g_goto h 91 dX6_digest_163 (by decide) ?_
                  refine g_lv (lv' := [(0, _), (1, _), (3, _), (4, _)]) [0, 1, 2, 3] rfl ?_
                  have hb91 : lp_X6_digest_91 x a11 ((((((((((((lp_X6_digest_11 x ((47 : Int64)) a11)) * ((31 : Int64))) + ((((x.setFM 0 (nI 0))).AM 16 a11).toInt64)) * ((31 : Int64))) + ((((x.setFM 0 (nI 0))).AM 17 a11).toInt64)) * ((31 : Int64))) + ((((x.setFM 0 (nI 0))).AM 18 a11).toInt64)) * ((31 : Int64))) + ((1 : Int64))) * ((31 : Int64))) + ((((x.setFM 0 (nI 0))).AM 21 a11).toInt64)) (a91 + 1) = _ := (if_pos c_130)
                  refine g_lvs (lv' := [(0, .ref (aM E)), (1, .long ((lp_X6_digest_91 x a11 ((((((((((((lp_X6_digest_11 x ((47 : Int64)) a11)) * ((31 : Int64))) + ((((x.setFM 0 (nI 0))).AM 16 a11).toInt64)) * ((31 : Int64))) + ((((x.setFM 0 (nI 0))).AM 17 a11).toInt64)) * ((31 : Int64))) + ((((x.setFM 0 (nI 0))).AM 18 a11).toInt64)) * ((31 : Int64))) + ((1 : Int64))) * ((31 : Int64))) + ((((x.setFM 0 (nI 0))).AM 21 a11).toInt64)) (a91 + 1)))), (3, .int (nI a11)), (4, .int (nI (a91 + 1)))]) (by rw [hb91]) ?_
                  exact ih91 (a91 + 1) (by omega) (by omega)
                · skip
                  refine g_aload_n h 0 dX6_digest_133 rfl rfl ?_
                  refine g_get (C := RX6) (T := TX6) (N := 29) h 4 (wat_M E _) rfl in_X6_digest_X6 (by decide) lk_X6_digest_19 rfl rfl dX6_digest_134 ?_
                  refine g_iload h 4 dX6_digest_137 rfl ?_
                  refine g_iald (n := 64) h (wat_Y E _ (i := 3) (by decide)) (by omega) (by decide) dX6_digest_139 ?_
                  refine g_goto h 144 dX6_digest_140 (by decide) ?_
                  refine g_i2l h dX6_digest_144 ?_
                  refine g_ladd h dX6_digest_145 ?_
                  refine g_ldc2_w (v := 31) h dX6_digest_146 (by decide +kernel) ?_
                  refine g_lmul h dX6_digest_149 ?_
                  refine g_aload_n h 0 dX6_digest_150 rfl rfl ?_
                  refine g_get (C := RX6) (T := TX6) (N := 29) h 6 (wat_M E _) rfl in_X6_digest_X6 (by decide) lk_X6_digest_25 rfl rfl dX6_digest_151 ?_
                  refine g_iload h 4 dX6_digest_154 rfl ?_
                  refine g_iald (n := 64) h (wat_Y E _ (i := 5) (by decide)) (by omega) (by decide) dX6_digest_156 ?_
                  refine g_i2l h dX6_digest_157 ?_
                  refine g_ladd h dX6_digest_158 ?_
                  refine g_lstore_n (lv' := [(0, _), (1, _), (3, _), (4, _), (5, _)]) h [1, 0, 2, 3, 4] dX6_digest_159 rfl (by decide) rfl ?_
                  refine g_iinc (lv' := [(0, _), (1, _), (3, _), (4, .int (nI (a91 + 1))), (5, _)]) h 3 [1, 2, 3, 0, 4] dX6_digest_160 rfl (nI_add _ 1) (by decide) rfl ?_
                  refine g_goto h 91 dX6_digest_163 (by decide) ?_
                  refine g_lv (lv' := [(0, _), (1, _), (3, _), (4, _)]) [0, 1, 2, 3] rfl ?_
                  have hb91 : lp_X6_digest_91 x a11 ((((((((((((lp_X6_digest_11 x ((47 : Int64)) a11)) * ((31 : Int64))) + ((((x.setFM 0 (nI 0))).AM 16 a11).toInt64)) * ((31 : Int64))) + ((((x.setFM 0 (nI 0))).AM 17 a11).toInt64)) * ((31 : Int64))) + ((((x.setFM 0 (nI 0))).AM 18 a11).toInt64)) * ((31 : Int64))) + ((1 : Int64))) * ((31 : Int64))) + ((((x.setFM 0 (nI 0))).AM 21 a11).toInt64)) (a91 + 1) = _ := (if_neg c_130)
                  refine g_lvs (lv' := [(0, .ref (aM E)), (1, .long ((lp_X6_digest_91 x a11 ((((((((((((lp_X6_digest_11 x ((47 : Int64)) a11)) * ((31 : Int64))) + ((((x.setFM 0 (nI 0))).AM 16 a11).toInt64)) * ((31 : Int64))) + ((((x.setFM 0 (nI 0))).AM 17 a11).toInt64)) * ((31 : Int64))) + ((((x.setFM 0 (nI 0))).AM 18 a11).toInt64)) * ((31 : Int64))) + ((1 : Int64))) * ((31 : Int64))) + ((((x.setFM 0 (nI 0))).AM 21 a11).toInt64)) (a91 + 1)))), (3, .int (nI a11)), (4, .int (nI (a91 + 1)))]) (by rw [hb91]) ?_
                  exact ih91 (a91 + 1) (by omega) (by omega)
          exact loop91 (4 + 1) 0 (by omega) (by omega)
  exact loop11 (16 + 1) 0 (by omega) (by omega)
