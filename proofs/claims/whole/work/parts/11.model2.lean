theorem lq_lineBy_ok (x : St) (i : Nat) (b : Int32) : ∀ n a, a + n = 16 → ¬ lq_X6_lineBy_2 x i b n a = (-1 : Int32) → lq_X6_lineBy_2 x i b n a = nI (nat (lq_X6_lineBy_2 x i b n a)) ∧ nat (lq_X6_lineBy_2 x i b n a) < 16 := by
  intro n
  induction n with
  | zero => intro a _ h; exact absurd rfl h
  | succ n ih =>
    intro a ha h
    unfold lq_X6_lineBy_2 at h ⊢
    split
    · rename_i h1
      rw [if_pos h1] at h
      exact ih (a + 1) (by omega) h
    · rename_i h1
      rw [if_neg h1] at h
      split
      · rename_i h2
        have e : nat (nI a) = a := nI_clamp (by omega)
        rw [e]
        exact ⟨rfl, by omega⟩
      · rename_i h2
        rw [if_neg h2] at h
        exact ih (a + 1) (by omega) h
theorem leaving_ok {x : St} {i j : Nat} (h : ¬ r_X6_leaving x i j = (-1 : Int32)) : r_X6_leaving x i j = nI (nat (r_X6_leaving x i j)) ∧ nat (r_X6_leaving x i j) < 16 := by
  have key : r_X6_leaving x i j = (-1 : Int32) ∨ r_X6_leaving x i j = lq_X6_lineBy_2 x i (nI 0) 16 0 := by
    unfold r_X6_leaving
    repeat' split
    all_goals first | exact Or.inl rfl | exact Or.inr rfl
  rcases key with k | k
  · exact absurd k h
  · rw [k] at h ⊢
    exact lq_lineBy_ok x i (nI 0) 16 0 rfl h
def r_X6_canStart (x : St) (i : Nat) (j : Nat) : Nat :=
  if (r_X6_leaving x i j) = ((-1 : Int32)) then
    1
  else
    if (nI (r_X6_canRemove x i (nat (r_X6_leaving x i j)))) = 0 then
      0
    else
      1
set_option maxRecDepth 100000 in
set_option maxHeartbeats 400000 in
theorem c_X6_canStart (l : Launch) (E : gE) (x : St) (i : Nat) (j : Nat) (hi : i < 4) (hj : j < 16) : Ct l yX6_canStart wsX6_canStart { frames := 3, cells := 0, slots := 0, locals := 68 } E [.ref (aM E), .int (nI i), .int (nI j)] x (fun v y => v = some (.int (nI (r_X6_canStart x i j))) ∧ y = x) 0 0 := by
  refine Ct.of (cc := cX6_canStart) (nL := 3) (ret := (some .boolean)) (by decide) rfl (Nat.le_of_ble_eq_true rfl) ?_
  intro p e s m args below meth c h hr hk hname
  refine g_lvs (lv' := [(0, _), (1, _), (2, _)]) rfl ?_
  refine g_aload_n h 0 dX6_canStart_0 rfl rfl ?_
  refine g_iload_n h 1 dX6_canStart_1 rfl rfl ?_
  refine g_iload_n h 2 dX6_canStart_2 rfl rfl ?_
  refine g_callV (As := [.int (nI i), .int (nI j)]) (C := RX6) h 2 (c_X6_leaving l E _ i j (by omega) (by omega)) rfl gX6_canStart_X6_leaving rfl rfl rfl rfl (by decide +kernel) ⟨Nat.le_of_ble_eq_true rfl, Nat.le_of_ble_eq_true rfl⟩ (wat_M E _) rfl rfl dX6_canStart_3 ⟨Nat.le_refl _, Nat.le_refl _⟩ (Nat.le_of_ble_eq_true rfl) ?_
  rintro _ _ ⟨rfl, hy⟩
  obtain rfl := hy.symm
  dsimp only [Option.toList, List.cons_append, List.nil_append]
  refine g_iconst (v := -1) h dX6_canStart_6 (by decide) ?_
  refine g_icmp_eq h 24 dX6_canStart_7 (by decide) (fun c_7 => ?_) (fun c_7 => ?_)
  · skip
    refine g_iconst (v := nI 1) h dX6_canStart_24 (by decide) ?_
    refine g_goto h 29 dX6_canStart_25 (by decide) ?_
    exact g_zret h hr hk (by decide) dX6_canStart_29 (Nat.zero_le _) (Nat.zero_le _) ⟨congrArg (fun z => some (Value.int (nI z))) (Eq.symm (if_pos c_7)), rfl⟩
  · skip
    refine g_aload_n h 0 dX6_canStart_10 rfl rfl ?_
    refine g_iload_n h 1 dX6_canStart_11 rfl rfl ?_
    refine g_aload_n h 0 dX6_canStart_12 rfl rfl ?_
    refine g_iload_n h 1 dX6_canStart_13 rfl rfl ?_
    refine g_iload_n h 2 dX6_canStart_14 rfl rfl ?_
    refine g_callV (As := [.int (nI i), .int (nI j)]) (C := RX6) h 2 (c_X6_leaving l E _ i j (by omega) (by omega)) rfl gX6_canStart_X6_leaving rfl rfl rfl rfl (by decide +kernel) ⟨Nat.le_of_ble_eq_true rfl, Nat.le_of_ble_eq_true rfl⟩ (wat_M E _) rfl rfl dX6_canStart_15 ⟨Nat.le_refl _, Nat.le_refl _⟩ (Nat.le_of_ble_eq_true rfl) ?_
    rintro _ _ ⟨rfl, hy⟩
    obtain rfl := hy.symm
    dsimp only [Option.toList, List.cons_append, List.nil_append]
    have hlv := leaving_ok c_7
    refine g_eqi hlv.1 ?_
    have hlv2 := hlv.2
    refine g_callV (As := [.int (nI i), .int (nI (nat (r_X6_leaving x i j)))]) (C := RX6) h 2 (c_X6_canRemove l E _ i (nat (r_X6_leaving x i j)) (by omega) (by omega)) rfl gX6_canStart_X6_canRemove rfl rfl rfl rfl (by decide +kernel) ⟨Nat.le_of_ble_eq_true rfl, Nat.le_of_ble_eq_true rfl⟩ (wat_M E _) rfl rfl dX6_canStart_18 ⟨Nat.le_refl _, Nat.le_refl _⟩ (Nat.le_of_ble_eq_true rfl) ?_
    rintro _ _ ⟨rfl, hy⟩
    obtain rfl := hy.symm
    dsimp only [Option.toList, List.cons_append, List.nil_append]
    refine g_if_eq h 28 dX6_canStart_21 (by decide) (fun c_21 => ?_) (fun c_21 => ?_)
    · skip
      refine g_iconst (v := nI 0) h dX6_canStart_28 (by decide) ?_
      exact g_zret h hr hk (by decide) dX6_canStart_29 (Nat.zero_le _) (Nat.zero_le _) ⟨congrArg (fun z => some (Value.int (nI z))) (Eq.symm (Eq.trans (if_neg c_7) (if_pos c_21))), rfl⟩
    · skip
      refine g_iconst (v := nI 1) h dX6_canStart_24 (by decide) ?_
      refine g_goto h 29 dX6_canStart_25 (by decide) ?_
      exact g_zret h hr hk (by decide) dX6_canStart_29 (Nat.zero_le _) (Nat.zero_le _) ⟨congrArg (fun z => some (Value.int (nI z))) (Eq.symm (Eq.trans (if_neg c_7) (if_neg c_21))), rfl⟩
theorem in_X6_start_X6 : ∀ w ∈ wsX60, w ∈ wsX6_start := by decide +kernel
theorem lk_X6_start_31 : Cond.fieldLink RX6 31 "CacheDirectoryModel" "misses" "[I" ∈ wsX6_start := by decide +kernel
theorem lk_X6_start_37 : Cond.fieldLink RX6 37 "CacheDirectoryModel" "openLines" "[I" ∈ wsX6_start := by decide +kernel
theorem lk_X6_start_40 : Cond.fieldLink RX6 40 "CacheDirectoryModel" "isWriting" "[Z" ∈ wsX6_start := by decide +kernel
theorem lk_X6_start_44 : Cond.fieldLink RX6 44 "CacheDirectoryModel" "toWrite" "[I" ∈ wsX6_start := by decide +kernel
theorem lk_X6_start_47 : Cond.fieldLink RX6 47 "CacheDirectoryModel" "isAnswered" "[Z" ∈ wsX6_start := by decide +kernel
theorem lk_X6_start_50 : Cond.fieldLink RX6 50 "CacheDirectoryModel" "answers" "[I" ∈ wsX6_start := by decide +kernel
theorem lk_X6_start_53 : Cond.fieldLink RX6 53 "CacheDirectoryModel" "needed" "[I" ∈ wsX6_start := by decide +kernel
theorem lk_X6_start_56 : Cond.fieldLink RX6 56 "CacheDirectoryModel" "got" "[I" ∈ wsX6_start := by decide +kernel
def s_X6_start (x : St) (i : Nat) (j : Nat) (w : Int32) (a : Int32) : St :=
  if (r_X6_leaving x i j) = ((-1 : Int32)) then
    let x1 := x.setAM 7 (upd (x.AM 7) i ((x.AM 7 i) + (nI 1)))
    let x2 := x1.setAM 9 (upd (x1.AM 9) i (nI j))
    let x3 := x2.setAM 10 (upd (x2.AM 10) i (vp_nar .boolean w))
    let x4 := x3.setAM 11 (upd (x3.AM 11) i a)
    let x5 := x4.setAM 12 (upd (x4.AM 12) i (vp_nar .boolean (nI 0)))
    let x6 := x5.setAM 13 (upd (x5.AM 13) i (nI 0))
    let x7 := x6.setAM 14 (upd (x6.AM 14) i (nI 0))
    let x8 := x7.setAM 15 (upd (x7.AM 15) i (nI 0))
    if w = 0 then
      let x9 := s_X6_send x8 (nI 1) (nI j) (nI i) ((-1 : Int32)) (nI 0) (nI 0) ((-1 : Int32))
      x9
    else
      let x10 := s_X6_send x8 (nI 2) (nI j) (nI i) ((-1 : Int32)) (nI 0) (nI 0) ((-1 : Int32))
      x10
  else
    let x11 := s_X6_remove x i (nat (r_X6_leaving x i j))
    let x12 := x11.setAM 7 (upd (x11.AM 7) i ((x11.AM 7 i) + (nI 1)))
    let x13 := x12.setAM 9 (upd (x12.AM 9) i (nI j))
    let x14 := x13.setAM 10 (upd (x13.AM 10) i (vp_nar .boolean w))
    let x15 := x14.setAM 11 (upd (x14.AM 11) i a)
    let x16 := x15.setAM 12 (upd (x15.AM 12) i (vp_nar .boolean (nI 0)))
    let x17 := x16.setAM 13 (upd (x16.AM 13) i (nI 0))
    let x18 := x17.setAM 14 (upd (x17.AM 14) i (nI 0))
    let x19 := x18.setAM 15 (upd (x18.AM 15) i (nI 0))
    if w = 0 then
      let x20 := s_X6_send x19 (nI 1) (nI j) (nI i) ((-1 : Int32)) (nI 0) (nI 0) ((-1 : Int32))
      x20
    else
      let x21 := s_X6_send x19 (nI 2) (nI j) (nI i) ((-1 : Int32)) (nI 0) (nI 0) ((-1 : Int32))
      x21
set_option maxRecDepth 100000 in
set_option maxHeartbeats 400000 in
theorem c_X6_start (l : Launch) (E : gE) (x : St) (i : Nat) (j : Nat) (w : Int32) (a : Int32) (hi : i < 4) (hj : j < 16) (hs : sOK x 2) : Ct l yX6_start wsX6_start { frames := 3, cells := 0, slots := 0, locals := 68 } E [.ref (aM E), .int (nI i), .int (nI j), .int w, .int a] x (fun v y => v = none ∧ y = s_X6_start x i j w a) 0 0 := by
  refine Ct.of (cc := cX6_start) (nL := 5) (ret := none) (by decide) rfl (Nat.le_of_ble_eq_true rfl) ?_
  intro p e s m args below meth c h hr hk hname
  refine g_lvs (lv' := [(0, _), (1, _), (2, _), (3, _), (4, _)]) rfl ?_
  refine g_aload_n h 0 dX6_start_0 rfl rfl ?_
  refine g_iload_n h 1 dX6_start_1 rfl rfl ?_
  refine g_iload_n h 2 dX6_start_2 rfl rfl ?_
  refine g_callV (As := [.int (nI i), .int (nI j)]) (C := RX6) h 2 (c_X6_leaving l E _ i j (by omega) (by omega)) rfl gX6_start_X6_leaving rfl rfl rfl rfl (by decide +kernel) ⟨Nat.le_of_ble_eq_true rfl, Nat.le_of_ble_eq_true rfl⟩ (wat_M E _) rfl rfl dX6_start_3 ⟨Nat.le_refl _, Nat.le_refl _⟩ (Nat.le_of_ble_eq_true rfl) ?_
  rintro _ _ ⟨rfl, hy⟩
  obtain rfl := hy.symm
  dsimp only [Option.toList, List.cons_append, List.nil_append]
  refine g_iconst (v := -1) h dX6_start_6 (by decide) ?_
  refine g_icmp_eq h 21 dX6_start_7 (by decide) (fun c_7 => ?_) (fun c_7 => ?_)
  · skip
    refine g_aload_n h 0 dX6_start_21 rfl rfl ?_
    refine g_get (C := RX6) (T := TX6) (N := 29) h 9 (wat_M E _) rfl in_X6_start_X6 (by decide) lk_X6_start_31 rfl rfl dX6_start_22 ?_
    refine g_iload_n h 1 dX6_start_25 rfl rfl ?_
    refine g_dup2 h dX6_start_26 rfl rfl ?_
    refine g_iald (n := 4) h (wat_Y E _ (i := 7) (by decide)) (by omega) (by decide) dX6_start_27 ?_
    refine g_iconst (v := nI 1) h dX6_start_28 (by decide) ?_
    refine g_iadd h dX6_start_29 ?_
    refine g_iast (n := 4) h (ws_Y E _ (i := 7) (by decide) _) (by omega) (by decide) dX6_start_30 ?_
    refine g_aload_n h 0 dX6_start_31 rfl rfl ?_
    refine g_get (C := RX6) (T := TX6) (N := 29) h 11 (wat_M E _) rfl in_X6_start_X6 (by decide) lk_X6_start_37 rfl rfl dX6_start_32 ?_
    refine g_iload_n h 1 dX6_start_35 rfl rfl ?_
    refine g_iload_n h 2 dX6_start_36 rfl rfl ?_
    refine g_iast (n := 4) h (ws_Y E _ (i := 9) (by decide) _) (by omega) (by decide) dX6_start_37 ?_
    refine g_aload_n h 0 dX6_start_38 rfl rfl ?_
    refine g_get (C := RX6) (T := TX6) (N := 29) h 12 (wat_M E _) rfl in_X6_start_X6 (by decide) lk_X6_start_40 rfl rfl dX6_start_39 ?_
    refine g_iload_n h 1 dX6_start_42 rfl rfl ?_
    refine g_iload_n h 3 dX6_start_43 rfl rfl ?_
    refine g_zast (n := 4) h (ws_Y E _ (i := 10) (by decide) _) (by omega) (by decide) dX6_start_44 ?_
    refine g_aload_n h 0 dX6_start_45 rfl rfl ?_
    refine g_get (C := RX6) (T := TX6) (N := 29) h 13 (wat_M E _) rfl in_X6_start_X6 (by decide) lk_X6_start_44 rfl rfl dX6_start_46 ?_
    refine g_iload_n h 1 dX6_start_49 rfl rfl ?_
    refine g_iload h 4 dX6_start_50 rfl ?_
    refine g_iast (n := 4) h (ws_Y E _ (i := 11) (by decide) _) (by omega) (by decide) dX6_start_52 ?_
    refine g_aload_n h 0 dX6_start_53 rfl rfl ?_
    refine g_get (C := RX6) (T := TX6) (N := 29) h 14 (wat_M E _) rfl in_X6_start_X6 (by decide) lk_X6_start_47 rfl rfl dX6_start_54 ?_
    refine g_iload_n h 1 dX6_start_57 rfl rfl ?_
    refine g_iconst (v := nI 0) h dX6_start_58 (by decide) ?_
    refine g_zast (n := 4) h (ws_Y E _ (i := 12) (by decide) _) (by omega) (by decide) dX6_start_59 ?_
    refine g_aload_n h 0 dX6_start_60 rfl rfl ?_
    refine g_get (C := RX6) (T := TX6) (N := 29) h 15 (wat_M E _) rfl in_X6_start_X6 (by decide) lk_X6_start_50 rfl rfl dX6_start_61 ?_
    refine g_iload_n h 1 dX6_start_64 rfl rfl ?_
    refine g_iconst (v := nI 0) h dX6_start_65 (by decide) ?_
    refine g_iast (n := 4) h (ws_Y E _ (i := 13) (by decide) _) (by omega) (by decide) dX6_start_66 ?_
    refine g_aload_n h 0 dX6_start_67 rfl rfl ?_
    refine g_get (C := RX6) (T := TX6) (N := 29) h 16 (wat_M E _) rfl in_X6_start_X6 (by decide) lk_X6_start_53 rfl rfl dX6_start_68 ?_
    refine g_iload_n h 1 dX6_start_71 rfl rfl ?_
    refine g_iconst (v := nI 0) h dX6_start_72 (by decide) ?_
    refine g_iast (n := 4) h (ws_Y E _ (i := 14) (by decide) _) (by omega) (by decide) dX6_start_73 ?_
    refine g_aload_n h 0 dX6_start_74 rfl rfl ?_
    refine g_get (C := RX6) (T := TX6) (N := 29) h 17 (wat_M E _) rfl in_X6_start_X6 (by decide) lk_X6_start_56 rfl rfl dX6_start_75 ?_
    refine g_iload_n h 1 dX6_start_78 rfl rfl ?_
    refine g_iconst (v := nI 0) h dX6_start_79 (by decide) ?_
    refine g_iast (n := 4) h (ws_Y E _ (i := 15) (by decide) _) (by omega) (by decide) dX6_start_80 ?_
    refine g_aload_n h 0 dX6_start_81 rfl rfl ?_
    refine g_iload_n h 3 dX6_start_82 rfl rfl ?_
    refine g_if_eq h 90 dX6_start_83 (by decide) (fun c_83 => ?_) (fun c_83 => ?_)
    · skip
      refine g_iconst (v := nI 1) h dX6_start_90 (by decide) ?_
      refine g_iload_n h 2 dX6_start_91 rfl rfl ?_
      refine g_iload_n h 1 dX6_start_92 rfl rfl ?_
      refine g_iconst (v := -1) h dX6_start_93 (by decide) ?_
      refine g_iconst (v := nI 0) h dX6_start_94 (by decide) ?_
      refine g_iconst (v := nI 0) h dX6_start_95 (by decide) ?_
      refine g_iconst (v := -1) h dX6_start_96 (by decide) ?_
      refine g_callV (As := [.int (nI 1), .int (nI j), .int (nI i), .int _, .int (nI 0), .int (nI 0), .int _]) (C := RX6) h 7 (c_X6_send l E _ _ _ _ _ _ _ _ (sOK.mono ((sOK_AM (sOK_AM (sOK_AM (sOK_AM (sOK_AM (sOK_AM (sOK_AM (sOK_AM hs))))))))) (by omega))) rfl gX6_start_X6_send rfl rfl rfl rfl (by decide +kernel) ⟨Nat.le_of_ble_eq_true rfl, Nat.le_of_ble_eq_true rfl⟩ (wat_M E _) rfl rfl dX6_start_97 ⟨Nat.le_refl _, Nat.le_refl _⟩ (Nat.le_of_ble_eq_true rfl) ?_
      rintro _ _ ⟨rfl, hy⟩
      obtain rfl := hy.symm
      dsimp only [Option.toList, List.cons_append, List.nil_append]
      exact g_vret h hr hk dX6_start_100 (Nat.zero_le _) (Nat.zero_le _) ⟨rfl, Eq.symm (Eq.trans (if_pos c_7) (if_pos c_83))⟩
    · skip
      refine g_iconst (v := nI 2) h dX6_start_86 (by decide) ?_
      refine g_goto h 91 dX6_start_87 (by decide) ?_
      refine g_iload_n h 2 dX6_start_91 rfl rfl ?_
      refine g_iload_n h 1 dX6_start_92 rfl rfl ?_
      refine g_iconst (v := -1) h dX6_start_93 (by decide) ?_
      refine g_iconst (v := nI 0) h dX6_start_94 (by decide) ?_
      refine g_iconst (v := nI 0) h dX6_start_95 (by decide) ?_
      refine g_iconst (v := -1) h dX6_start_96 (by decide) ?_
      refine g_callV (As := [.int (nI 2), .int (nI j), .int (nI i), .int _, .int (nI 0), .int (nI 0), .int _]) (C := RX6) h 7 (c_X6_send l E _ _ _ _ _ _ _ _ (sOK.mono ((sOK_AM (sOK_AM (sOK_AM (sOK_AM (sOK_AM (sOK_AM (sOK_AM (sOK_AM hs))))))))) (by omega))) rfl gX6_start_X6_send rfl rfl rfl rfl (by decide +kernel) ⟨Nat.le_of_ble_eq_true rfl, Nat.le_of_ble_eq_true rfl⟩ (wat_M E _) rfl rfl dX6_start_97 ⟨Nat.le_refl _, Nat.le_refl _⟩ (Nat.le_of_ble_eq_true rfl) ?_
      rintro _ _ ⟨rfl, hy⟩
      obtain rfl := hy.symm
      dsimp only [Option.toList, List.cons_append, List.nil_append]
      exact g_vret h hr hk dX6_start_100 (Nat.zero_le _) (Nat.zero_le _) ⟨rfl, Eq.symm (Eq.trans (if_pos c_7) (if_neg c_83))⟩
  · skip
    refine g_aload_n h 0 dX6_start_10 rfl rfl ?_
    refine g_iload_n h 1 dX6_start_11 rfl rfl ?_
    refine g_aload_n h 0 dX6_start_12 rfl rfl ?_
    refine g_iload_n h 1 dX6_start_13 rfl rfl ?_
    refine g_iload_n h 2 dX6_start_14 rfl rfl ?_
    refine g_callV (As := [.int (nI i), .int (nI j)]) (C := RX6) h 2 (c_X6_leaving l E _ i j (by omega) (by omega)) rfl gX6_start_X6_leaving rfl rfl rfl rfl (by decide +kernel) ⟨Nat.le_of_ble_eq_true rfl, Nat.le_of_ble_eq_true rfl⟩ (wat_M E _) rfl rfl dX6_start_15 ⟨Nat.le_refl _, Nat.le_refl _⟩ (Nat.le_of_ble_eq_true rfl) ?_
    rintro _ _ ⟨rfl, hy⟩
    obtain rfl := hy.symm
    dsimp only [Option.toList, List.cons_append, List.nil_append]
    have hlv := leaving_ok c_7
    refine g_eqi hlv.1 ?_
    have hlv2 := hlv.2
    refine g_callV (As := [.int (nI i), .int (nI (nat (r_X6_leaving x i j)))]) (C := RX6) h 2 (c_X6_remove l E _ i (nat (r_X6_leaving x i j)) (by omega) (by omega) (sOK.mono (hs) (by omega))) rfl gX6_start_X6_remove rfl rfl rfl rfl (by decide +kernel) ⟨Nat.le_of_ble_eq_true rfl, Nat.le_of_ble_eq_true rfl⟩ (wat_M E _) rfl rfl dX6_start_18 ⟨Nat.le_refl _, Nat.le_refl _⟩ (Nat.le_of_ble_eq_true rfl) ?_
    rintro _ _ ⟨rfl, hy⟩
    obtain rfl := hy.symm
    dsimp only [Option.toList, List.cons_append, List.nil_append]
    refine g_aload_n h 0 dX6_start_21 rfl rfl ?_
    refine g_get (C := RX6) (T := TX6) (N := 29) h 9 (wat_M E _) rfl in_X6_start_X6 (by decide) lk_X6_start_31 rfl rfl dX6_start_22 ?_
    refine g_iload_n h 1 dX6_start_25 rfl rfl ?_
    refine g_dup2 h dX6_start_26 rfl rfl ?_
    refine g_iald (n := 4) h (wat_Y E _ (i := 7) (by decide)) (by omega) (by decide) dX6_start_27 ?_
    refine g_iconst (v := nI 1) h dX6_start_28 (by decide) ?_
    refine g_iadd h dX6_start_29 ?_
    refine g_iast (n := 4) h (ws_Y E _ (i := 7) (by decide) _) (by omega) (by decide) dX6_start_30 ?_
    refine g_aload_n h 0 dX6_start_31 rfl rfl ?_
    refine g_get (C := RX6) (T := TX6) (N := 29) h 11 (wat_M E _) rfl in_X6_start_X6 (by decide) lk_X6_start_37 rfl rfl dX6_start_32 ?_
    refine g_iload_n h 1 dX6_start_35 rfl rfl ?_
    refine g_iload_n h 2 dX6_start_36 rfl rfl ?_
    refine g_iast (n := 4) h (ws_Y E _ (i := 9) (by decide) _) (by omega) (by decide) dX6_start_37 ?_
    refine g_aload_n h 0 dX6_start_38 rfl rfl ?_
    refine g_get (C := RX6) (T := TX6) (N := 29) h 12 (wat_M E _) rfl in_X6_start_X6 (by decide) lk_X6_start_40 rfl rfl dX6_start_39 ?_
    refine g_iload_n h 1 dX6_start_42 rfl rfl ?_
    refine g_iload_n h 3 dX6_start_43 rfl rfl ?_
    refine g_zast (n := 4) h (ws_Y E _ (i := 10) (by decide) _) (by omega) (by decide) dX6_start_44 ?_
    refine g_aload_n h 0 dX6_start_45 rfl rfl ?_
    refine g_get (C := RX6) (T := TX6) (N := 29) h 13 (wat_M E _) rfl in_X6_start_X6 (by decide) lk_X6_start_44 rfl rfl dX6_start_46 ?_
    refine g_iload_n h 1 dX6_start_49 rfl rfl ?_
    refine g_iload h 4 dX6_start_50 rfl ?_
    refine g_iast (n := 4) h (ws_Y E _ (i := 11) (by decide) _) (by omega) (by decide) dX6_start_52 ?_
    refine g_aload_n h 0 dX6_start_53 rfl rfl ?_
    refine g_get (C := RX6) (T := TX6) (N := 29) h 14 (wat_M E _) rfl in_X6_start_X6 (by decide) lk_X6_start_47 rfl rfl dX6_start_54 ?_
    refine g_iload_n h 1 dX6_start_57 rfl rfl ?_
    refine g_iconst (v := nI 0) h dX6_start_58 (by decide) ?_
    refine g_zast (n := 4) h (ws_Y E _ (i := 12) (by decide) _) (by omega) (by decide) dX6_start_59 ?_
    refine g_aload_n h 0 dX6_start_60 rfl rfl ?_
    refine g_get (C := RX6) (T := TX6) (N := 29) h 15 (wat_M E _) rfl in_X6_start_X6 (by decide) lk_X6_start_50 rfl rfl dX6_start_61 ?_
    refine g_iload_n h 1 dX6_start_64 rfl rfl ?_
    refine g_iconst (v := nI 0) h dX6_start_65 (by decide) ?_
    refine g_iast (n := 4) h (ws_Y E _ (i := 13) (by decide) _) (by omega) (by decide) dX6_start_66 ?_
    refine g_aload_n h 0 dX6_start_67 rfl rfl ?_
    refine g_get (C := RX6) (T := TX6) (N := 29) h 16 (wat_M E _) rfl in_X6_start_X6 (by decide) lk_X6_start_53 rfl rfl dX6_start_68 ?_
    refine g_iload_n h 1 dX6_start_71 rfl rfl ?_
    refine g_iconst (v := nI 0) h dX6_start_72 (by decide) ?_
    refine g_iast (n := 4) h (ws_Y E _ (i := 14) (by decide) _) (by omega) (by decide) dX6_start_73 ?_
    refine g_aload_n h 0 dX6_start_74 rfl rfl ?_
    refine g_get (C := RX6) (T := TX6) (N := 29) h 17 (wat_M E _) rfl in_X6_start_X6 (by decide) lk_X6_start_56 rfl rfl dX6_start_75 ?_
    refine g_iload_n h 1 dX6_start_78 rfl rfl ?_
    refine g_iconst (v := nI 0) h dX6_start_79 (by decide) ?_
    refine g_iast (n := 4) h (ws_Y E _ (i := 15) (by decide) _) (by omega) (by decide) dX6_start_80 ?_
    refine g_aload_n h 0 dX6_start_81 rfl rfl ?_
    refine g_iload_n h 3 dX6_start_82 rfl rfl ?_
    refine g_if_eq h 90 dX6_start_83 (by decide) (fun c_83 => ?_) (fun c_83 => ?_)
    · skip
      refine g_iconst (v := nI 1) h dX6_start_90 (by decide) ?_
      refine g_iload_n h 2 dX6_start_91 rfl rfl ?_
      refine g_iload_n h 1 dX6_start_92 rfl rfl ?_
      refine g_iconst (v := -1) h dX6_start_93 (by decide) ?_
      refine g_iconst (v := nI 0) h dX6_start_94 (by decide) ?_
      refine g_iconst (v := nI 0) h dX6_start_95 (by decide) ?_
      refine g_iconst (v := -1) h dX6_start_96 (by decide) ?_
      refine g_callV (As := [.int (nI 1), .int (nI j), .int (nI i), .int _, .int (nI 0), .int (nI 0), .int _]) (C := RX6) h 7 (c_X6_send l E _ _ _ _ _ _ _ _ (sOK.mono ((sOK_AM (sOK_AM (sOK_AM (sOK_AM (sOK_AM (sOK_AM (sOK_AM (sOK_AM (sOK_remove (hs))))))))))) (by omega))) rfl gX6_start_X6_send rfl rfl rfl rfl (by decide +kernel) ⟨Nat.le_of_ble_eq_true rfl, Nat.le_of_ble_eq_true rfl⟩ (wat_M E _) rfl rfl dX6_start_97 ⟨Nat.le_refl _, Nat.le_refl _⟩ (Nat.le_of_ble_eq_true rfl) ?_
      rintro _ _ ⟨rfl, hy⟩
      obtain rfl := hy.symm
      dsimp only [Option.toList, List.cons_append, List.nil_append]
      exact g_vret h hr hk dX6_start_100 (Nat.zero_le _) (Nat.zero_le _) ⟨rfl, Eq.symm (Eq.trans (if_neg c_7) (if_pos c_83))⟩
    · skip
      refine g_iconst (v := nI 2) h dX6_start_86 (by decide) ?_
      refine g_goto h 91 dX6_start_87 (by decide) ?_
      refine g_iload_n h 2 dX6_start_91 rfl rfl ?_
      refine g_iload_n h 1 dX6_start_92 rfl rfl ?_
      refine g_iconst (v := -1) h dX6_start_93 (by decide) ?_
      refine g_iconst (v := nI 0) h dX6_start_94 (by decide) ?_
      refine g_iconst (v := nI 0) h dX6_start_95 (by decide) ?_
      refine g_iconst (v := -1) h dX6_start_96 (by decide) ?_
      refine g_callV (As := [.int (nI 2), .int (nI j), .int (nI i), .int _, .int (nI 0), .int (nI 0), .int _]) (C := RX6) h 7 (c_X6_send l E _ _ _ _ _ _ _ _ (sOK.mono ((sOK_AM (sOK_AM (sOK_AM (sOK_AM (sOK_AM (sOK_AM (sOK_AM (sOK_AM (sOK_remove (hs))))))))))) (by omega))) rfl gX6_start_X6_send rfl rfl rfl rfl (by decide +kernel) ⟨Nat.le_of_ble_eq_true rfl, Nat.le_of_ble_eq_true rfl⟩ (wat_M E _) rfl rfl dX6_start_97 ⟨Nat.le_refl _, Nat.le_refl _⟩ (Nat.le_of_ble_eq_true rfl) ?_
      rintro _ _ ⟨rfl, hy⟩
      obtain rfl := hy.symm
      dsimp only [Option.toList, List.cons_append, List.nil_append]
      exact g_vret h hr hk dX6_start_100 (Nat.zero_le _) (Nat.zero_le _) ⟨rfl, Eq.symm (Eq.trans (if_neg c_7) (if_neg c_83))⟩
theorem in_X6_setRoom_X6 : ∀ w ∈ wsX60, w ∈ wsX6_setRoom := by decide +kernel
theorem lk_X6_setRoom_83 : Cond.fieldLink RX6 83 "CacheDirectoryModel" "thrown" "I" ∈ wsX6_setRoom := by decide +kernel
theorem lk_X6_setRoom_37 : Cond.fieldLink RX6 37 "CacheDirectoryModel" "openLines" "[I" ∈ wsX6_setRoom := by decide +kernel
theorem lk_X6_setRoom_7 : Cond.fieldLink RX6 7 "CacheDirectoryModel" "ways" "[I" ∈ wsX6_setRoom := by decide +kernel
theorem lk_X6_setRoom_13 : Cond.fieldLink RX6 13 "CacheDirectoryModel" "rooms" "[I" ∈ wsX6_setRoom := by decide +kernel
def r_X6_setRoom_ok (x : St) (i : Nat) (b : Int32) (d : Int32) : Nat :=
  let x1 := x.setFM 0 (nI 0)
  if b < (nI 1) then
    let x2 := s_X6_failed x1 (nI 2)
    0
  else
    if (nI 4) < b then
      let x3 := s_X6_failed x1 (nI 2)
      0
    else
      if d < 0 then
        let x4 := s_X6_failed x1 (nI 2)
        0
      else
        if d ≤ (nI 2) then
          if 0 < (nI (r_X6_linesIn x1 i)) then
            let x5 := s_X6_failed x1 (nI 3)
            0
          else
            if 0 < (nI (r_X6_victimsIn x1 i)) then
              let x6 := s_X6_failed x1 (nI 3)
              0
            else
              if (x1.AM 9 i) = ((-1 : Int32)) then
                if (x1.AM 0 i) = b then
                  if (x1.AM 1 i) = d then
                    let x9 := x1.setAM 0 (upd (x1.AM 0) i b)
                    let x10 := x9.setAM 1 (upd (x9.AM 1) i d)
                    0
                  else
                    let x11 := x1.setAM 0 (upd (x1.AM 0) i b)
                    let x12 := x11.setAM 1 (upd (x11.AM 1) i d)
                    1
                else
                  let x7 := x1.setAM 0 (upd (x1.AM 0) i b)
                  let x8 := x7.setAM 1 (upd (x7.AM 1) i d)
                  1
              else
                let x13 := s_X6_failed x1 (nI 3)
                0
        else
          let x14 := s_X6_failed x1 (nI 2)
          0
def s_X6_setRoom_ok (x : St) (i : Nat) (b : Int32) (d : Int32) : St :=
  let x1 := x.setFM 0 (nI 0)
  if b < (nI 1) then
    let x2 := s_X6_failed x1 (nI 2)
    x2
  else
    if (nI 4) < b then
      let x3 := s_X6_failed x1 (nI 2)
      x3
    else
      if d < 0 then
        let x4 := s_X6_failed x1 (nI 2)
        x4
      else
        if d ≤ (nI 2) then
          if 0 < (nI (r_X6_linesIn x1 i)) then
            let x5 := s_X6_failed x1 (nI 3)
            x5
          else
            if 0 < (nI (r_X6_victimsIn x1 i)) then
              let x6 := s_X6_failed x1 (nI 3)
              x6
            else
              if (x1.AM 9 i) = ((-1 : Int32)) then
                if (x1.AM 0 i) = b then
                  if (x1.AM 1 i) = d then
                    let x9 := x1.setAM 0 (upd (x1.AM 0) i b)
                    let x10 := x9.setAM 1 (upd (x9.AM 1) i d)
                    x10
                  else
                    let x11 := x1.setAM 0 (upd (x1.AM 0) i b)
                    let x12 := x11.setAM 1 (upd (x11.AM 1) i d)
                    x12
                else
                  let x7 := x1.setAM 0 (upd (x1.AM 0) i b)
                  let x8 := x7.setAM 1 (upd (x7.AM 1) i d)
                  x8
              else
                let x13 := s_X6_failed x1 (nI 3)
                x13
        else
          let x14 := s_X6_failed x1 (nI 2)
          x14
set_option maxRecDepth 100000 in
set_option maxHeartbeats 400000 in
theorem c_X6_setRoom_ok (l : Launch) (E : gE) (x : St) (i : Nat) (b : Int32) (d : Int32) (hi : i < 4) : Ct l yX6_setRoom wsX6_setRoom { frames := 2, cells := 0, slots := 0, locals := 44 } E [.ref (aM E), .int (nI i), .int b, .int d] x (fun v y => v = some (.int (nI (r_X6_setRoom_ok x i b d))) ∧ y = s_X6_setRoom_ok x i b d) 0 0 := by
  refine Ct.of (cc := cX6_setRoom) (nL := 5) (ret := (some .boolean)) (by decide) rfl (Nat.le_of_ble_eq_true rfl) ?_
  intro p e s m args below meth c h hr hk hname
  refine g_lvs (lv' := [(0, _), (1, _), (2, _), (3, _)]) rfl ?_
  refine g_aload_n h 0 dX6_setRoom_0 rfl rfl ?_
  refine g_iconst (v := nI 0) h dX6_setRoom_1 (by decide) ?_
  refine g_put (C := RX6) (T := TX6) (N := 29) h 0 tyX6 (ws_M0 E _ _) rfl in_X6_setRoom_X6 tyX6_ok nmX6 (by decide) lk_X6_setRoom_83 rfl rfl rfl rfl rfl (Nat.le_of_ble_eq_true rfl) dX6_setRoom_2 ?_
  refine g_iload_n h 1 dX6_setRoom_5 rfl rfl ?_
  refine g_callS (As := [.int (nI i)]) h 1 (c_X6_isCache_t l E _ i (by omega)) rfl gX6_setRoom_X6_isCache rfl rfl rfl rfl (by decide +kernel) ⟨Nat.le_of_ble_eq_true rfl, Nat.le_of_ble_eq_true rfl⟩ dX6_setRoom_6 ⟨Nat.le_refl _, Nat.le_refl _⟩ (Nat.le_of_ble_eq_true rfl) ?_
  rintro _ _ ⟨rfl, hy⟩
  obtain rfl := hy.symm
  dsimp only [Option.toList, List.cons_append, List.nil_append]
  refine g_if_ne h 18 dX6_setRoom_9 (by decide) (fun c_9 => ?_) (fun c_9 => absurd c_9 (by decide))
  refine g_iload_n h 2 dX6_setRoom_18 rfl rfl ?_
  refine g_iconst (v := nI 1) h dX6_setRoom_19 (by decide) ?_
  refine g_icmp_lt h 37 dX6_setRoom_20 (by decide) (fun c_20 => ?_) (fun c_20 => ?_)
  · skip
    refine g_aload_n h 0 dX6_setRoom_37 rfl rfl ?_
    refine g_iconst (v := nI 2) h dX6_setRoom_38 (by decide) ?_
    refine g_callV (As := [.int (nI 2)]) (C := RX6) h 1 (c_X6_failed l E _ 2) rfl gX6_setRoom_X6_failed rfl rfl rfl rfl (by decide +kernel) ⟨Nat.le_of_ble_eq_true rfl, Nat.le_of_ble_eq_true rfl⟩ (wat_M E _) rfl rfl dX6_setRoom_39 ⟨Nat.le_refl _, Nat.le_refl _⟩ (Nat.le_of_ble_eq_true rfl) ?_
    rintro _ _ ⟨rfl, hy⟩
    obtain rfl := hy.symm
    dsimp only [Option.toList, List.cons_append, List.nil_append]
    exact g_zret h hr hk (by decide) dX6_setRoom_42 (Nat.zero_le _) (Nat.zero_le _) ⟨congrArg (fun z => some (Value.int (nI z))) (Eq.symm (if_pos c_20)), Eq.symm (if_pos c_20)⟩
  · skip
    refine g_iload_n h 2 dX6_setRoom_23 rfl rfl ?_
    refine g_iconst (v := nI 4) h dX6_setRoom_24 (by decide) ?_
    refine g_icmp_gt h 37 dX6_setRoom_25 (by decide) (fun c_25 => ?_) (fun c_25 => ?_)
    · skip
      refine g_aload_n h 0 dX6_setRoom_37 rfl rfl ?_
      refine g_iconst (v := nI 2) h dX6_setRoom_38 (by decide) ?_
      refine g_callV (As := [.int (nI 2)]) (C := RX6) h 1 (c_X6_failed l E _ 2) rfl gX6_setRoom_X6_failed rfl rfl rfl rfl (by decide +kernel) ⟨Nat.le_of_ble_eq_true rfl, Nat.le_of_ble_eq_true rfl⟩ (wat_M E _) rfl rfl dX6_setRoom_39 ⟨Nat.le_refl _, Nat.le_refl _⟩ (Nat.le_of_ble_eq_true rfl) ?_
      rintro _ _ ⟨rfl, hy⟩
      obtain rfl := hy.symm
      dsimp only [Option.toList, List.cons_append, List.nil_append]
      exact g_zret h hr hk (by decide) dX6_setRoom_42 (Nat.zero_le _) (Nat.zero_le _) ⟨congrArg (fun z => some (Value.int (nI z))) (Eq.symm (Eq.trans (if_neg c_20) (if_pos c_25))), Eq.symm (Eq.trans (if_neg c_20) (if_pos c_25))⟩
    · skip
      refine g_iload_n h 3 dX6_setRoom_28 rfl rfl ?_
      refine g_if_lt h 37 dX6_setRoom_29 (by decide) (fun c_29 => ?_) (fun c_29 => ?_)
      · skip
        refine g_aload_n h 0 dX6_setRoom_37 rfl rfl ?_
        refine g_iconst (v := nI 2) h dX6_setRoom_38 (by decide) ?_
        refine g_callV (As := [.int (nI 2)]) (C := RX6) h 1 (c_X6_failed l E _ 2) rfl gX6_setRoom_X6_failed rfl rfl rfl rfl (by decide +kernel) ⟨Nat.le_of_ble_eq_true rfl, Nat.le_of_ble_eq_true rfl⟩ (wat_M E _) rfl rfl dX6_setRoom_39 ⟨Nat.le_refl _, Nat.le_refl _⟩ (Nat.le_of_ble_eq_true rfl) ?_
        rintro _ _ ⟨rfl, hy⟩
        obtain rfl := hy.symm
        dsimp only [Option.toList, List.cons_append, List.nil_append]
        exact g_zret h hr hk (by decide) dX6_setRoom_42 (Nat.zero_le _) (Nat.zero_le _) ⟨congrArg (fun z => some (Value.int (nI z))) (Eq.symm (Eq.trans (if_neg c_20) (Eq.trans (if_neg c_25) (if_pos c_29)))), Eq.symm (Eq.trans (if_neg c_20) (Eq.trans (if_neg c_25) (if_pos c_29)))⟩
      · skip
        refine g_iload_n h 3 dX6_setRoom_32 rfl rfl ?_
        refine g_iconst (v := nI 2) h dX6_setRoom_33 (by decide) ?_
        refine g_icmp_le h 43 dX6_setRoom_34 (by decide) (fun c_34 => ?_) (fun c_34 => ?_)
        · skip
          refine g_aload_n h 0 dX6_setRoom_43 rfl rfl ?_
          refine g_iload_n h 1 dX6_setRoom_44 rfl rfl ?_
          refine g_callV (As := [.int (nI i)]) (C := RX6) h 1 (c_X6_linesIn l E _ i (by omega)) rfl gX6_setRoom_X6_linesIn rfl rfl rfl rfl (by decide +kernel) ⟨Nat.le_of_ble_eq_true rfl, Nat.le_of_ble_eq_true rfl⟩ (wat_M E _) rfl rfl dX6_setRoom_45 ⟨Nat.le_refl _, Nat.le_refl _⟩ (Nat.le_of_ble_eq_true rfl) ?_
          rintro _ _ ⟨rfl, hy⟩
          obtain rfl := hy.symm
          dsimp only [Option.toList, List.cons_append, List.nil_append]
          refine g_if_gt h 69 dX6_setRoom_48 (by decide) (fun c_48 => ?_) (fun c_48 => ?_)
          · skip
            refine g_aload_n h 0 dX6_setRoom_69 rfl rfl ?_
            refine g_iconst (v := nI 3) h dX6_setRoom_70 (by decide) ?_
            refine g_callV (As := [.int (nI 3)]) (C := RX6) h 1 (c_X6_failed l E _ 3) rfl gX6_setRoom_X6_failed rfl rfl rfl rfl (by decide +kernel) ⟨Nat.le_of_ble_eq_true rfl, Nat.le_of_ble_eq_true rfl⟩ (wat_M E _) rfl rfl dX6_setRoom_71 ⟨Nat.le_refl _, Nat.le_refl _⟩ (Nat.le_of_ble_eq_true rfl) ?_
            rintro _ _ ⟨rfl, hy⟩
            obtain rfl := hy.symm
            dsimp only [Option.toList, List.cons_append, List.nil_append]
            exact g_zret h hr hk (by decide) dX6_setRoom_74 (Nat.zero_le _) (Nat.zero_le _) ⟨congrArg (fun z => some (Value.int (nI z))) (Eq.symm (Eq.trans (if_neg c_20) (Eq.trans (if_neg c_25) (Eq.trans (if_neg c_29) (Eq.trans (if_pos c_34) (if_pos c_48)))))), Eq.symm (Eq.trans (if_neg c_20) (Eq.trans (if_neg c_25) (Eq.trans (if_neg c_29) (Eq.trans (if_pos c_34) (if_pos c_48)))))⟩
          · skip
            refine g_aload_n h 0 dX6_setRoom_51 rfl rfl ?_
            refine g_iload_n h 1 dX6_setRoom_52 rfl rfl ?_
            refine g_callV (As := [.int (nI i)]) (C := RX6) h 1 (c_X6_victimsIn l E _ i (by omega)) rfl gX6_setRoom_X6_victimsIn rfl rfl rfl rfl (by decide +kernel) ⟨Nat.le_of_ble_eq_true rfl, Nat.le_of_ble_eq_true rfl⟩ (wat_M E _) rfl rfl dX6_setRoom_53 ⟨Nat.le_refl _, Nat.le_refl _⟩ (Nat.le_of_ble_eq_true rfl) ?_
            rintro _ _ ⟨rfl, hy⟩
            obtain rfl := hy.symm
            dsimp only [Option.toList, List.cons_append, List.nil_append]
            refine g_if_gt h 69 dX6_setRoom_56 (by decide) (fun c_56 => ?_) (fun c_56 => ?_)
            · skip
              refine g_aload_n h 0 dX6_setRoom_69 rfl rfl ?_
              refine g_iconst (v := nI 3) h dX6_setRoom_70 (by decide) ?_
              refine g_callV (As := [.int (nI 3)]) (C := RX6) h 1 (c_X6_failed l E _ 3) rfl gX6_setRoom_X6_failed rfl rfl rfl rfl (by decide +kernel) ⟨Nat.le_of_ble_eq_true rfl, Nat.le_of_ble_eq_true rfl⟩ (wat_M E _) rfl rfl dX6_setRoom_71 ⟨Nat.le_refl _, Nat.le_refl _⟩ (Nat.le_of_ble_eq_true rfl) ?_
              rintro _ _ ⟨rfl, hy⟩
              obtain rfl := hy.symm
              dsimp only [Option.toList, List.cons_append, List.nil_append]
              exact g_zret h hr hk (by decide) dX6_setRoom_74 (Nat.zero_le _) (Nat.zero_le _) ⟨congrArg (fun z => some (Value.int (nI z))) (Eq.symm (Eq.trans (if_neg c_20) (Eq.trans (if_neg c_25) (Eq.trans (if_neg c_29) (Eq.trans (if_pos c_34) (Eq.trans (if_neg c_48) (if_pos c_56))))))), Eq.symm (Eq.trans (if_neg c_20) (Eq.trans (if_neg c_25) (Eq.trans (if_neg c_29) (Eq.trans (if_pos c_34) (Eq.trans (if_neg c_48) (if_pos c_56))))))⟩
            · skip
              refine g_aload_n h 0 dX6_setRoom_59 rfl rfl ?_
              refine g_get (C := RX6) (T := TX6) (N := 29) h 11 (wat_M E _) rfl in_X6_setRoom_X6 (by decide) lk_X6_setRoom_37 rfl rfl dX6_setRoom_60 ?_
              refine g_iload_n h 1 dX6_setRoom_63 rfl rfl ?_
              refine g_iald (n := 4) h (wat_Y E _ (i := 9) (by decide)) (by omega) (by decide) dX6_setRoom_64 ?_
              refine g_iconst (v := -1) h dX6_setRoom_65 (by decide) ?_
              refine g_icmp_eq h 75 dX6_setRoom_66 (by decide) (fun c_66 => ?_) (fun c_66 => ?_)
              · skip
                refine g_aload_n h 0 dX6_setRoom_75 rfl rfl ?_
                refine g_get (C := RX6) (T := TX6) (N := 29) h 1 (wat_M E _) rfl in_X6_setRoom_X6 (by decide) lk_X6_setRoom_7 rfl rfl dX6_setRoom_76 ?_
                refine g_iload_n h 1 dX6_setRoom_79 rfl rfl ?_
                refine g_iald (n := 4) h (wat_Y E _ (i := 0) (by decide)) (by omega) (by decide) dX6_setRoom_80 ?_
                refine g_iload_n h 2 dX6_setRoom_81 rfl rfl ?_
                refine g_icmp_ne h 95 dX6_setRoom_82 (by decide) (fun c_82 => ?_) (fun c_82 => ?_)
                · skip
                  refine g_iconst (v := nI 1) h dX6_setRoom_95 (by decide) ?_
                  refine g_goto h 100 dX6_setRoom_96 (by decide) ?_
                  refine g_istore (lv' := [(0, _), (1, _), (2, _), (3, _), (4, _)]) h [1, 2, 3, 4, 0] dX6_setRoom_100 (by decide) rfl ?_
                  refine g_aload_n h 0 dX6_setRoom_102 rfl rfl ?_
                  refine g_get (C := RX6) (T := TX6) (N := 29) h 1 (wat_M E _) rfl in_X6_setRoom_X6 (by decide) lk_X6_setRoom_7 rfl rfl dX6_setRoom_103 ?_
                  refine g_iload_n h 1 dX6_setRoom_106 rfl rfl ?_
                  refine g_iload_n h 2 dX6_setRoom_107 rfl rfl ?_
                  refine g_iast (n := 4) h (ws_Y E _ (i := 0) (by decide) _) (by omega) (by decide) dX6_setRoom_108 ?_
                  refine g_aload_n h 0 dX6_setRoom_109 rfl rfl ?_
                  refine g_get (C := RX6) (T := TX6) (N := 29) h 2 (wat_M E _) rfl in_X6_setRoom_X6 (by decide) lk_X6_setRoom_13 rfl rfl dX6_setRoom_110 ?_
                  refine g_iload_n h 1 dX6_setRoom_113 rfl rfl ?_
                  refine g_iload_n h 3 dX6_setRoom_114 rfl rfl ?_
                  refine g_iast (n := 4) h (ws_Y E _ (i := 1) (by decide) _) (by omega) (by decide) dX6_setRoom_115 ?_
                  refine g_iload h 4 dX6_setRoom_116 rfl ?_
                  exact g_zret h hr hk (by decide) dX6_setRoom_118 (Nat.zero_le _) (Nat.zero_le _) ⟨congrArg (fun z => some (Value.int (nI z))) (Eq.symm (Eq.trans (if_neg c_20) (Eq.trans (if_neg c_25) (Eq.trans (if_neg c_29) (Eq.trans (if_pos c_34) (Eq.trans (if_neg c_48) (Eq.trans (if_neg c_56) (Eq.trans (if_pos c_66) (if_neg c_82))))))))), Eq.symm (Eq.trans (if_neg c_20) (Eq.trans (if_neg c_25) (Eq.trans (if_neg c_29) (Eq.trans (if_pos c_34) (Eq.trans (if_neg c_48) (Eq.trans (if_neg c_56) (Eq.trans (if_pos c_66) (if_neg c_82))))))))⟩
                · skip
                  refine g_aload_n h 0 dX6_setRoom_85 rfl rfl ?_
                  refine g_get (C := RX6) (T := TX6) (N := 29) h 2 (wat_M E _) rfl in_X6_setRoom_X6 (by decide) lk_X6_setRoom_13 rfl rfl dX6_setRoom_86 ?_
                  refine g_iload_n h 1 dX6_setRoom_89 rfl rfl ?_
                  refine g_iald (n := 4) h (wat_Y E _ (i := 1) (by decide)) (by omega) (by decide) dX6_setRoom_90 ?_
                  refine g_iload_n h 3 dX6_setRoom_91 rfl rfl ?_
                  refine g_icmp_eq h 99 dX6_setRoom_92 (by decide) (fun c_92 => ?_) (fun c_92 => ?_)
                  · skip
                    refine g_iconst (v := nI 0) h dX6_setRoom_99 (by decide) ?_
                    refine g_istore (lv' := [(0, _), (1, _), (2, _), (3, _), (4, _)]) h [1, 2, 3, 4, 0] dX6_setRoom_100 (by decide) rfl ?_
                    refine g_aload_n h 0 dX6_setRoom_102 rfl rfl ?_
                    refine g_get (C := RX6) (T := TX6) (N := 29) h 1 (wat_M E _) rfl in_X6_setRoom_X6 (by decide) lk_X6_setRoom_7 rfl rfl dX6_setRoom_103 ?_
                    refine g_iload_n h 1 dX6_setRoom_106 rfl rfl ?_
                    refine g_iload_n h 2 dX6_setRoom_107 rfl rfl ?_
                    refine g_iast (n := 4) h (ws_Y E _ (i := 0) (by decide) _) (by omega) (by decide) dX6_setRoom_108 ?_
                    refine g_aload_n h 0 dX6_setRoom_109 rfl rfl ?_
                    refine g_get (C := RX6) (T := TX6) (N := 29) h 2 (wat_M E _) rfl in_X6_setRoom_X6 (by decide) lk_X6_setRoom_13 rfl rfl dX6_setRoom_110 ?_
                    refine g_iload_n h 1 dX6_setRoom_113 rfl rfl ?_
                    refine g_iload_n h 3 dX6_setRoom_114 rfl rfl ?_
                    refine g_iast (n := 4) h (ws_Y E _ (i := 1) (by decide) _) (by omega) (by decide) dX6_setRoom_115 ?_
                    refine g_iload h 4 dX6_setRoom_116 rfl ?_
                    exact g_zret h hr hk (by decide) dX6_setRoom_118 (Nat.zero_le _) (Nat.zero_le _) ⟨congrArg (fun z => some (Value.int (nI z))) (Eq.symm (Eq.trans (if_neg c_20) (Eq.trans (if_neg c_25) (Eq.trans (if_neg c_29) (Eq.trans (if_pos c_34) (Eq.trans (if_neg c_48) (Eq.trans (if_neg c_56) (Eq.trans (if_pos c_66) (Eq.trans (if_pos c_82) (if_pos c_92)))))))))), Eq.symm (Eq.trans (if_neg c_20) (Eq.trans (if_neg c_25) (Eq.trans (if_neg c_29) (Eq.trans (if_pos c_34) (Eq.trans (if_neg c_48) (Eq.trans (if_neg c_56) (Eq.trans (if_pos c_66) (Eq.trans (if_pos c_82) (if_pos c_92)))))))))⟩
                  · skip
                    refine g_iconst (v := nI 1) h dX6_setRoom_95 (by decide) ?_
                    refine g_goto h 100 dX6_setRoom_96 (by decide) ?_
                    refine g_istore (lv' := [(0, _), (1, _), (2, _), (3, _), (4, _)]) h [1, 2, 3, 4, 0] dX6_setRoom_100 (by decide) rfl ?_
                    refine g_aload_n h 0 dX6_setRoom_102 rfl rfl ?_
                    refine g_get (C := RX6) (T := TX6) (N := 29) h 1 (wat_M E _) rfl in_X6_setRoom_X6 (by decide) lk_X6_setRoom_7 rfl rfl dX6_setRoom_103 ?_
                    refine g_iload_n h 1 dX6_setRoom_106 rfl rfl ?_
                    refine g_iload_n h 2 dX6_setRoom_107 rfl rfl ?_
                    refine g_iast (n := 4) h (ws_Y E _ (i := 0) (by decide) _) (by omega) (by decide) dX6_setRoom_108 ?_
                    refine g_aload_n h 0 dX6_setRoom_109 rfl rfl ?_
                    refine g_get (C := RX6) (T := TX6) (N := 29) h 2 (wat_M E _) rfl in_X6_setRoom_X6 (by decide) lk_X6_setRoom_13 rfl rfl dX6_setRoom_110 ?_
                    refine g_iload_n h 1 dX6_setRoom_113 rfl rfl ?_
                    refine g_iload_n h 3 dX6_setRoom_114 rfl rfl ?_
                    refine g_iast (n := 4) h (ws_Y E _ (i := 1) (by decide) _) (by omega) (by decide) dX6_setRoom_115 ?_
                    refine g_iload h 4 dX6_setRoom_116 rfl ?_
                    exact g_zret h hr hk (by decide) dX6_setRoom_118 (Nat.zero_le _) (Nat.zero_le _) ⟨congrArg (fun z => some (Value.int (nI z))) (Eq.symm (Eq.trans (if_neg c_20) (Eq.trans (if_neg c_25) (Eq.trans (if_neg c_29) (Eq.trans (if_pos c_34) (Eq.trans (if_neg c_48) (Eq.trans (if_neg c_56) (Eq.trans (if_pos c_66) (Eq.trans (if_pos c_82) (if_neg c_92)))))))))), Eq.symm (Eq.trans (if_neg c_20) (Eq.trans (if_neg c_25) (Eq.trans (if_neg c_29) (Eq.trans (if_pos c_34) (Eq.trans (if_neg c_48) (Eq.trans (if_neg c_56) (Eq.trans (if_pos c_66) (Eq.trans (if_pos c_82) (if_neg c_92)))))))))⟩
              · skip
                refine g_aload_n h 0 dX6_setRoom_69 rfl rfl ?_
                refine g_iconst (v := nI 3) h dX6_setRoom_70 (by decide) ?_
                refine g_callV (As := [.int (nI 3)]) (C := RX6) h 1 (c_X6_failed l E _ 3) rfl gX6_setRoom_X6_failed rfl rfl rfl rfl (by decide +kernel) ⟨Nat.le_of_ble_eq_true rfl, Nat.le_of_ble_eq_true rfl⟩ (wat_M E _) rfl rfl dX6_setRoom_71 ⟨Nat.le_refl _, Nat.le_refl _⟩ (Nat.le_of_ble_eq_true rfl) ?_
                rintro _ _ ⟨rfl, hy⟩
                obtain rfl := hy.symm
                dsimp only [Option.toList, List.cons_append, List.nil_append]
                exact g_zret h hr hk (by decide) dX6_setRoom_74 (Nat.zero_le _) (Nat.zero_le _) ⟨congrArg (fun z => some (Value.int (nI z))) (Eq.symm (Eq.trans (if_neg c_20) (Eq.trans (if_neg c_25) (Eq.trans (if_neg c_29) (Eq.trans (if_pos c_34) (Eq.trans (if_neg c_48) (Eq.trans (if_neg c_56) (if_neg c_66)))))))), Eq.symm (Eq.trans (if_neg c_20) (Eq.trans (if_neg c_25) (Eq.trans (if_neg c_29) (Eq.trans (if_pos c_34) (Eq.trans (if_neg c_48) (Eq.trans (if_neg c_56) (if_neg c_66)))))))⟩
        · skip
          refine g_aload_n h 0 dX6_setRoom_37 rfl rfl ?_
          refine g_iconst (v := nI 2) h dX6_setRoom_38 (by decide) ?_
          refine g_callV (As := [.int (nI 2)]) (C := RX6) h 1 (c_X6_failed l E _ 2) rfl gX6_setRoom_X6_failed rfl rfl rfl rfl (by decide +kernel) ⟨Nat.le_of_ble_eq_true rfl, Nat.le_of_ble_eq_true rfl⟩ (wat_M E _) rfl rfl dX6_setRoom_39 ⟨Nat.le_refl _, Nat.le_refl _⟩ (Nat.le_of_ble_eq_true rfl) ?_
          rintro _ _ ⟨rfl, hy⟩
          obtain rfl := hy.symm
          dsimp only [Option.toList, List.cons_append, List.nil_append]
          exact g_zret h hr hk (by decide) dX6_setRoom_42 (Nat.zero_le _) (Nat.zero_le _) ⟨congrArg (fun z => some (Value.int (nI z))) (Eq.symm (Eq.trans (if_neg c_20) (Eq.trans (if_neg c_25) (Eq.trans (if_neg c_29) (if_neg c_34))))), Eq.symm (Eq.trans (if_neg c_20) (Eq.trans (if_neg c_25) (Eq.trans (if_neg c_29) (if_neg c_34))))⟩
def s_X6_setRoom_bc (x : St) (a : Int32) (b : Int32) (d : Int32) : St :=
  let x1 := x.setFM 0 (nI 0)
  let x2 := s_X6_failed x1 (nI 1)
  x2
set_option maxRecDepth 100000 in
set_option maxHeartbeats 400000 in
theorem c_X6_setRoom_bc (l : Launch) (E : gE) (x : St) (a : Int32) (b : Int32) (d : Int32) (ha : badC a) : Ct l yX6_setRoom wsX6_setRoom { frames := 2, cells := 0, slots := 0, locals := 44 } E [.ref (aM E), .int a, .int b, .int d] x (fun v y => v = some (.int (nI 0)) ∧ y = s_X6_setRoom_bc x a b d) 0 0 := by
  refine Ct.of (cc := cX6_setRoom) (nL := 5) (ret := (some .boolean)) (by decide) rfl (Nat.le_of_ble_eq_true rfl) ?_
  intro p e s m args below meth c h hr hk hname
  refine g_lvs (lv' := [(0, _), (1, _), (2, _), (3, _)]) rfl ?_
  refine g_aload_n h 0 dX6_setRoom_0 rfl rfl ?_
  refine g_iconst (v := nI 0) h dX6_setRoom_1 (by decide) ?_
  refine g_put (C := RX6) (T := TX6) (N := 29) h 0 tyX6 (ws_M0 E _ _) rfl in_X6_setRoom_X6 tyX6_ok nmX6 (by decide) lk_X6_setRoom_83 rfl rfl rfl rfl rfl (Nat.le_of_ble_eq_true rfl) dX6_setRoom_2 ?_
  refine g_iload_n h 1 dX6_setRoom_5 rfl rfl ?_
  refine g_callS (As := [.int _]) h 1 (c_X6_isCache_f l E _ a ha) rfl gX6_setRoom_X6_isCache rfl rfl rfl rfl (by decide +kernel) ⟨Nat.le_of_ble_eq_true rfl, Nat.le_of_ble_eq_true rfl⟩ dX6_setRoom_6 ⟨Nat.le_refl _, Nat.le_refl _⟩ (Nat.le_of_ble_eq_true rfl) ?_
  rintro _ _ ⟨rfl, hy⟩
  obtain rfl := hy.symm
  dsimp only [Option.toList, List.cons_append, List.nil_append]
  refine g_if_ne h 18 dX6_setRoom_9 (by decide) (fun c_9 => absurd c_9 (by decide)) (fun c_9 => ?_)
  refine g_aload_n h 0 dX6_setRoom_12 rfl rfl ?_
  refine g_iconst (v := nI 1) h dX6_setRoom_13 (by decide) ?_
  refine g_callV (As := [.int (nI 1)]) (C := RX6) h 1 (c_X6_failed l E _ 1) rfl gX6_setRoom_X6_failed rfl rfl rfl rfl (by decide +kernel) ⟨Nat.le_of_ble_eq_true rfl, Nat.le_of_ble_eq_true rfl⟩ (wat_M E _) rfl rfl dX6_setRoom_14 ⟨Nat.le_refl _, Nat.le_refl _⟩ (Nat.le_of_ble_eq_true rfl) ?_
  rintro _ _ ⟨rfl, hy⟩
  obtain rfl := hy.symm
  dsimp only [Option.toList, List.cons_append, List.nil_append]
  exact g_zret h hr hk (by decide) dX6_setRoom_17 (Nat.zero_le _) (Nat.zero_le _) ⟨rfl, Eq.symm rfl⟩
theorem in_X6_read_X6 : ∀ w ∈ wsX60, w ∈ wsX6_read := by decide +kernel
theorem lk_X6_read_83 : Cond.fieldLink RX6 83 "CacheDirectoryModel" "thrown" "I" ∈ wsX6_read := by decide +kernel
theorem lk_X6_read_37 : Cond.fieldLink RX6 37 "CacheDirectoryModel" "openLines" "[I" ∈ wsX6_read := by decide +kernel
theorem lk_X6_read_25 : Cond.fieldLink RX6 25 "CacheDirectoryModel" "victims" "[I" ∈ wsX6_read := by decide +kernel
theorem lk_X6_read_16 : Cond.fieldLink RX6 16 "CacheDirectoryModel" "states" "[I" ∈ wsX6_read := by decide +kernel
theorem lk_X6_read_28 : Cond.fieldLink RX6 28 "CacheDirectoryModel" "hits" "[I" ∈ wsX6_read := by decide +kernel
theorem lk_X6_read_19 : Cond.fieldLink RX6 19 "CacheDirectoryModel" "values" "[I" ∈ wsX6_read := by decide +kernel
def r_X6_read_ok (x : St) (i : Nat) (j : Nat) : Int32 :=
  let x1 := x.setFM 0 (nI 0)
  if (x1.AM 9 i) = ((-1 : Int32)) then
    if (x1.AM 5 (16 * i + j)) < 0 then
      if (x1.AM 2 (16 * i + j)) ≤ 0 then
        if (nI (r_X6_canStart x1 i j)) = 0 then
          let x4 := s_X6_fail x1 (nI 2)
          nI 0
        else
          let x3 := s_X6_start x1 i j (nI 0) (nI 0)
          (-1 : Int32)
      else
        let x5 := x1.setAM 6 (upd (x1.AM 6) i ((x1.AM 6 i) + (nI 1)))
        let x6 := s_X6_use x5 i j
        x6.AM 3 (16 * i + j)
    else
      let x7 := s_X6_fail x1 (nI 2)
      nI 0
  else
    let x2 := s_X6_fail x1 (nI 2)
    nI 0
def s_X6_read_ok (x : St) (i : Nat) (j : Nat) : St :=
  let x1 := x.setFM 0 (nI 0)
  if (x1.AM 9 i) = ((-1 : Int32)) then
    if (x1.AM 5 (16 * i + j)) < 0 then
      if (x1.AM 2 (16 * i + j)) ≤ 0 then
        if (nI (r_X6_canStart x1 i j)) = 0 then
          let x4 := s_X6_fail x1 (nI 2)
          x4
        else
          let x3 := s_X6_start x1 i j (nI 0) (nI 0)
          x3
      else
        let x5 := x1.setAM 6 (upd (x1.AM 6) i ((x1.AM 6 i) + (nI 1)))
        let x6 := s_X6_use x5 i j
        x6
    else
      let x7 := s_X6_fail x1 (nI 2)
      x7
  else
    let x2 := s_X6_fail x1 (nI 2)
    x2
set_option maxRecDepth 100000 in
set_option maxHeartbeats 400000 in
theorem c_X6_read_ok (l : Launch) (E : gE) (x : St) (i : Nat) (j : Nat) (hi : i < 4) (hj : j < 16) (hs : sOK x 2) : Ct l yX6_read wsX6_read { frames := 4, cells := 0, slots := 0, locals := 92 } E [.ref (aM E), .int (nI i), .int (nI j)] x (fun v y => v = some (.int (r_X6_read_ok x i j)) ∧ y = s_X6_read_ok x i j) 0 0 := by
  refine Ct.of (cc := cX6_read) (nL := 3) (ret := (some .int)) (by decide) rfl (Nat.le_of_ble_eq_true rfl) ?_
  intro p e s m args below meth c h hr hk hname
  refine g_lvs (lv' := [(0, _), (1, _), (2, _)]) rfl ?_
  refine g_aload_n h 0 dX6_read_0 rfl rfl ?_
  refine g_iconst (v := nI 0) h dX6_read_1 (by decide) ?_
  refine g_put (C := RX6) (T := TX6) (N := 29) h 0 tyX6 (ws_M0 E _ _) rfl in_X6_read_X6 tyX6_ok nmX6 (by decide) lk_X6_read_83 rfl rfl rfl rfl rfl (Nat.le_of_ble_eq_true rfl) dX6_read_2 ?_
  refine g_iload_n h 1 dX6_read_5 rfl rfl ?_
  refine g_callS (As := [.int (nI i)]) h 1 (c_X6_isCache_t l E _ i (by omega)) rfl gX6_read_X6_isCache rfl rfl rfl rfl (by decide +kernel) ⟨Nat.le_of_ble_eq_true rfl, Nat.le_of_ble_eq_true rfl⟩ dX6_read_6 ⟨Nat.le_refl _, Nat.le_refl _⟩ (Nat.le_of_ble_eq_true rfl) ?_
  rintro _ _ ⟨rfl, hy⟩
  obtain rfl := hy.symm
  dsimp only [Option.toList, List.cons_append, List.nil_append]
  refine g_if_eq h 19 dX6_read_9 (by decide) (fun c_9 => absurd c_9 (by decide)) (fun c_9 => ?_)
  refine g_iload_n h 2 dX6_read_12 rfl rfl ?_
  refine g_callS (As := [.int (nI j)]) h 1 (c_X6_isLine_t l E _ j (by omega)) rfl gX6_read_X6_isLine rfl rfl rfl rfl (by decide +kernel) ⟨Nat.le_of_ble_eq_true rfl, Nat.le_of_ble_eq_true rfl⟩ dX6_read_13 ⟨Nat.le_refl _, Nat.le_refl _⟩ (Nat.le_of_ble_eq_true rfl) ?_
  rintro _ _ ⟨rfl, hy⟩
  obtain rfl := hy.symm
  dsimp only [Option.toList, List.cons_append, List.nil_append]
  refine g_if_ne h 25 dX6_read_16 (by decide) (fun c_16 => ?_) (fun c_16 => absurd c_16 (by decide))
  refine g_aload_n h 0 dX6_read_25 rfl rfl ?_
  refine g_get (C := RX6) (T := TX6) (N := 29) h 11 (wat_M E _) rfl in_X6_read_X6 (by decide) lk_X6_read_37 rfl rfl dX6_read_26 ?_
  refine g_iload_n h 1 dX6_read_29 rfl rfl ?_
  refine g_iald (n := 4) h (wat_Y E _ (i := 9) (by decide)) (by omega) (by decide) dX6_read_30 ?_
  refine g_iconst (v := -1) h dX6_read_31 (by decide) ?_
  refine g_icmp_ne h 48 dX6_read_32 (by decide) (fun c_32 => ?_) (fun c_32 => ?_)
  · skip
    refine g_aload_n h 0 dX6_read_48 rfl rfl ?_
    refine g_iconst (v := nI 2) h dX6_read_49 (by decide) ?_
    refine g_callV (As := [.int (nI 2)]) (C := RX6) h 1 (c_X6_fail l E _ 2) rfl gX6_read_X6_fail rfl rfl rfl rfl (by decide +kernel) ⟨Nat.le_of_ble_eq_true rfl, Nat.le_of_ble_eq_true rfl⟩ (wat_M E _) rfl rfl dX6_read_50 ⟨Nat.le_refl _, Nat.le_refl _⟩ (Nat.le_of_ble_eq_true rfl) ?_
    rintro _ _ ⟨rfl, hy⟩
    obtain rfl := hy.symm
    dsimp only [Option.toList, List.cons_append, List.nil_append]
    exact g_iret h hr hk dX6_read_53 (Nat.zero_le _) (Nat.zero_le _) ⟨congrArg (fun z => some (Value.int z)) (Eq.symm (if_neg c_32)), Eq.symm (if_neg c_32)⟩
  · skip
    refine g_aload_n h 0 dX6_read_35 rfl rfl ?_
    refine g_get (C := RX6) (T := TX6) (N := 29) h 6 (wat_M E _) rfl in_X6_read_X6 (by decide) lk_X6_read_25 rfl rfl dX6_read_36 ?_
    refine g_iload_n h 1 dX6_read_39 rfl rfl ?_
    refine g_iload_n h 2 dX6_read_40 rfl rfl ?_
    refine g_callS (As := [.int (nI i), .int (nI j)]) h 2 (c_X6_at l E _ i j (by omega) (by omega)) rfl gX6_read_X6_at rfl rfl rfl rfl (by decide +kernel) ⟨Nat.le_of_ble_eq_true rfl, Nat.le_of_ble_eq_true rfl⟩ dX6_read_41 ⟨Nat.le_refl _, Nat.le_refl _⟩ (Nat.le_of_ble_eq_true rfl) ?_
    rintro _ _ ⟨rfl, hy⟩
    obtain rfl := hy.symm
    dsimp only [Option.toList, List.cons_append, List.nil_append]
    refine g_iald (n := 64) h (wat_Y E _ (i := 5) (by decide)) (by omega) (by decide) dX6_read_44 ?_
    refine g_if_lt h 54 dX6_read_45 (by decide) (fun c_45 => ?_) (fun c_45 => ?_)
    · skip
      refine g_aload_n h 0 dX6_read_54 rfl rfl ?_
      refine g_get (C := RX6) (T := TX6) (N := 29) h 3 (wat_M E _) rfl in_X6_read_X6 (by decide) lk_X6_read_16 rfl rfl dX6_read_55 ?_
      refine g_iload_n h 1 dX6_read_58 rfl rfl ?_
      refine g_iload_n h 2 dX6_read_59 rfl rfl ?_
      refine g_callS (As := [.int (nI i), .int (nI j)]) h 2 (c_X6_at l E _ i j (by omega) (by omega)) rfl gX6_read_X6_at rfl rfl rfl rfl (by decide +kernel) ⟨Nat.le_of_ble_eq_true rfl, Nat.le_of_ble_eq_true rfl⟩ dX6_read_60 ⟨Nat.le_refl _, Nat.le_refl _⟩ (Nat.le_of_ble_eq_true rfl) ?_
      rintro _ _ ⟨rfl, hy⟩
      obtain rfl := hy.symm
      dsimp only [Option.toList, List.cons_append, List.nil_append]
      refine g_iald (n := 64) h (wat_Y E _ (i := 2) (by decide)) (by omega) (by decide) dX6_read_63 ?_
      refine g_if_le h 94 dX6_read_64 (by decide) (fun c_64 => ?_) (fun c_64 => ?_)
      · skip
        refine g_aload_n h 0 dX6_read_94 rfl rfl ?_
        refine g_iload_n h 1 dX6_read_95 rfl rfl ?_
        refine g_iload_n h 2 dX6_read_96 rfl rfl ?_
        refine g_callV (As := [.int (nI i), .int (nI j)]) (C := RX6) h 2 (c_X6_canStart l E _ i j (by omega) (by omega)) rfl gX6_read_X6_canStart rfl rfl rfl rfl (by decide +kernel) ⟨Nat.le_of_ble_eq_true rfl, Nat.le_of_ble_eq_true rfl⟩ (wat_M E _) rfl rfl dX6_read_97 ⟨Nat.le_refl _, Nat.le_refl _⟩ (Nat.le_of_ble_eq_true rfl) ?_
        rintro _ _ ⟨rfl, hy⟩
        obtain rfl := hy.symm
        dsimp only [Option.toList, List.cons_append, List.nil_append]
        refine g_if_ne h 109 dX6_read_100 (by decide) (fun c_100 => ?_) (fun c_100 => ?_)
        · skip
          refine g_aload_n h 0 dX6_read_109 rfl rfl ?_
          refine g_iload_n h 1 dX6_read_110 rfl rfl ?_
          refine g_iload_n h 2 dX6_read_111 rfl rfl ?_
          refine g_iconst (v := nI 0) h dX6_read_112 (by decide) ?_
          refine g_iconst (v := nI 0) h dX6_read_113 (by decide) ?_
          refine g_callV (As := [.int (nI i), .int (nI j), .int (nI 0), .int (nI 0)]) (C := RX6) h 4 (c_X6_start l E _ i j _ _ (by omega) (by omega) ((sOK_FM (by decide) hs))) rfl gX6_read_X6_start rfl rfl rfl rfl (by decide +kernel) ⟨Nat.le_of_ble_eq_true rfl, Nat.le_of_ble_eq_true rfl⟩ (wat_M E _) rfl rfl dX6_read_114 ⟨Nat.le_refl _, Nat.le_refl _⟩ (Nat.le_of_ble_eq_true rfl) ?_
          rintro _ _ ⟨rfl, hy⟩
          obtain rfl := hy.symm
          dsimp only [Option.toList, List.cons_append, List.nil_append]
          refine g_iconst (v := -1) h dX6_read_117 (by decide) ?_
          exact g_iret h hr hk dX6_read_118 (Nat.zero_le _) (Nat.zero_le _) ⟨congrArg (fun z => some (Value.int z)) (Eq.symm (Eq.trans (if_pos c_32) (Eq.trans (if_pos c_45) (Eq.trans (if_pos c_64) (if_neg c_100))))), Eq.symm (Eq.trans (if_pos c_32) (Eq.trans (if_pos c_45) (Eq.trans (if_pos c_64) (if_neg c_100))))⟩
        · skip
          refine g_aload_n h 0 dX6_read_103 rfl rfl ?_
          refine g_iconst (v := nI 2) h dX6_read_104 (by decide) ?_
          refine g_callV (As := [.int (nI 2)]) (C := RX6) h 1 (c_X6_fail l E _ 2) rfl gX6_read_X6_fail rfl rfl rfl rfl (by decide +kernel) ⟨Nat.le_of_ble_eq_true rfl, Nat.le_of_ble_eq_true rfl⟩ (wat_M E _) rfl rfl dX6_read_105 ⟨Nat.le_refl _, Nat.le_refl _⟩ (Nat.le_of_ble_eq_true rfl) ?_
          rintro _ _ ⟨rfl, hy⟩
          obtain rfl := hy.symm
          dsimp only [Option.toList, List.cons_append, List.nil_append]
          exact g_iret h hr hk dX6_read_108 (Nat.zero_le _) (Nat.zero_le _) ⟨congrArg (fun z => some (Value.int z)) (Eq.symm (Eq.trans (if_pos c_32) (Eq.trans (if_pos c_45) (Eq.trans (if_pos c_64) (if_pos c_100))))), Eq.symm (Eq.trans (if_pos c_32) (Eq.trans (if_pos c_45) (Eq.trans (if_pos c_64) (if_pos c_100))))⟩
      · skip
        refine g_aload_n h 0 dX6_read_67 rfl rfl ?_
        refine g_get (C := RX6) (T := TX6) (N := 29) h 8 (wat_M E _) rfl in_X6_read_X6 (by decide) lk_X6_read_28 rfl rfl dX6_read_68 ?_
        refine g_iload_n h 1 dX6_read_71 rfl rfl ?_
        refine g_dup2 h dX6_read_72 rfl rfl ?_
        refine g_iald (n := 4) h (wat_Y E _ (i := 6) (by decide)) (by omega) (by decide) dX6_read_73 ?_
        refine g_iconst (v := nI 1) h dX6_read_74 (by decide) ?_
        refine g_iadd h dX6_read_75 ?_
        refine g_iast (n := 4) h (ws_Y E _ (i := 6) (by decide) _) (by omega) (by decide) dX6_read_76 ?_
        refine g_aload_n h 0 dX6_read_77 rfl rfl ?_
        refine g_iload_n h 1 dX6_read_78 rfl rfl ?_
        refine g_iload_n h 2 dX6_read_79 rfl rfl ?_
        refine g_callV (As := [.int (nI i), .int (nI j)]) (C := RX6) h 2 (c_X6_use l E _ i j (by omega) (by omega)) rfl gX6_read_X6_use rfl rfl rfl rfl (by decide +kernel) ⟨Nat.le_of_ble_eq_true rfl, Nat.le_of_ble_eq_true rfl⟩ (wat_M E _) rfl rfl dX6_read_80 ⟨Nat.le_refl _, Nat.le_refl _⟩ (Nat.le_of_ble_eq_true rfl) ?_
        rintro _ _ ⟨rfl, hy⟩
        obtain rfl := hy.symm
        dsimp only [Option.toList, List.cons_append, List.nil_append]
        refine g_aload_n h 0 dX6_read_83 rfl rfl ?_
        refine g_get (C := RX6) (T := TX6) (N := 29) h 4 (wat_M E _) rfl in_X6_read_X6 (by decide) lk_X6_read_19 rfl rfl dX6_read_84 ?_
        refine g_iload_n h 1 dX6_read_87 rfl rfl ?_
        refine g_iload_n h 2 dX6_read_88 rfl rfl ?_
        refine g_callS (As := [.int (nI i), .int (nI j)]) h 2 (c_X6_at l E _ i j (by omega) (by omega)) rfl gX6_read_X6_at rfl rfl rfl rfl (by decide +kernel) ⟨Nat.le_of_ble_eq_true rfl, Nat.le_of_ble_eq_true rfl⟩ dX6_read_89 ⟨Nat.le_refl _, Nat.le_refl _⟩ (Nat.le_of_ble_eq_true rfl) ?_
        rintro _ _ ⟨rfl, hy⟩
        obtain rfl := hy.symm
        dsimp only [Option.toList, List.cons_append, List.nil_append]
        refine g_iald (n := 64) h (wat_Y E _ (i := 3) (by decide)) (by omega) (by decide) dX6_read_92 ?_
        exact g_iret h hr hk dX6_read_93 (Nat.zero_le _) (Nat.zero_le _) ⟨congrArg (fun z => some (Value.int z)) (Eq.symm (Eq.trans (if_pos c_32) (Eq.trans (if_pos c_45) (if_neg c_64)))), Eq.symm (Eq.trans (if_pos c_32) (Eq.trans (if_pos c_45) (if_neg c_64)))⟩
    · skip
      refine g_aload_n h 0 dX6_read_48 rfl rfl ?_
      refine g_iconst (v := nI 2) h dX6_read_49 (by decide) ?_
      refine g_callV (As := [.int (nI 2)]) (C := RX6) h 1 (c_X6_fail l E _ 2) rfl gX6_read_X6_fail rfl rfl rfl rfl (by decide +kernel) ⟨Nat.le_of_ble_eq_true rfl, Nat.le_of_ble_eq_true rfl⟩ (wat_M E _) rfl rfl dX6_read_50 ⟨Nat.le_refl _, Nat.le_refl _⟩ (Nat.le_of_ble_eq_true rfl) ?_
      rintro _ _ ⟨rfl, hy⟩
      obtain rfl := hy.symm
      dsimp only [Option.toList, List.cons_append, List.nil_append]
      exact g_iret h hr hk dX6_read_53 (Nat.zero_le _) (Nat.zero_le _) ⟨congrArg (fun z => some (Value.int z)) (Eq.symm (Eq.trans (if_pos c_32) (if_neg c_45))), Eq.symm (Eq.trans (if_pos c_32) (if_neg c_45))⟩
def s_X6_read_bc (x : St) (a : Int32) (b : Int32) : St :=
  let x1 := x.setFM 0 (nI 0)
  let x2 := s_X6_fail x1 (nI 1)
  x2
set_option maxRecDepth 100000 in
set_option maxHeartbeats 400000 in
theorem c_X6_read_bc (l : Launch) (E : gE) (x : St) (a : Int32) (b : Int32) (ha : badC a) : Ct l yX6_read wsX6_read { frames := 4, cells := 0, slots := 0, locals := 92 } E [.ref (aM E), .int a, .int b] x (fun v y => v = some (.int (nI 0)) ∧ y = s_X6_read_bc x a b) 0 0 := by
  refine Ct.of (cc := cX6_read) (nL := 3) (ret := (some .int)) (by decide) rfl (Nat.le_of_ble_eq_true rfl) ?_
  intro p e s m args below meth c h hr hk hname
  refine g_lvs (lv' := [(0, _), (1, _), (2, _)]) rfl ?_
  refine g_aload_n h 0 dX6_read_0 rfl rfl ?_
  refine g_iconst (v := nI 0) h dX6_read_1 (by decide) ?_
  refine g_put (C := RX6) (T := TX6) (N := 29) h 0 tyX6 (ws_M0 E _ _) rfl in_X6_read_X6 tyX6_ok nmX6 (by decide) lk_X6_read_83 rfl rfl rfl rfl rfl (Nat.le_of_ble_eq_true rfl) dX6_read_2 ?_
  refine g_iload_n h 1 dX6_read_5 rfl rfl ?_
  refine g_callS (As := [.int _]) h 1 (c_X6_isCache_f l E _ a ha) rfl gX6_read_X6_isCache rfl rfl rfl rfl (by decide +kernel) ⟨Nat.le_of_ble_eq_true rfl, Nat.le_of_ble_eq_true rfl⟩ dX6_read_6 ⟨Nat.le_refl _, Nat.le_refl _⟩ (Nat.le_of_ble_eq_true rfl) ?_
  rintro _ _ ⟨rfl, hy⟩
  obtain rfl := hy.symm
  dsimp only [Option.toList, List.cons_append, List.nil_append]
  refine g_if_eq h 19 dX6_read_9 (by decide) (fun c_9 => ?_) (fun c_9 => absurd c_9 (by decide))
  refine g_aload_n h 0 dX6_read_19 rfl rfl ?_
  refine g_iconst (v := nI 1) h dX6_read_20 (by decide) ?_
  refine g_callV (As := [.int (nI 1)]) (C := RX6) h 1 (c_X6_fail l E _ 1) rfl gX6_read_X6_fail rfl rfl rfl rfl (by decide +kernel) ⟨Nat.le_of_ble_eq_true rfl, Nat.le_of_ble_eq_true rfl⟩ (wat_M E _) rfl rfl dX6_read_21 ⟨Nat.le_refl _, Nat.le_refl _⟩ (Nat.le_of_ble_eq_true rfl) ?_
  rintro _ _ ⟨rfl, hy⟩
  obtain rfl := hy.symm
  dsimp only [Option.toList, List.cons_append, List.nil_append]
  exact g_iret h hr hk dX6_read_24 (Nat.zero_le _) (Nat.zero_le _) ⟨rfl, Eq.symm rfl⟩
def s_X6_read_bl (x : St) (i : Nat) (b : Int32) : St :=
  let x1 := x.setFM 0 (nI 0)
  let x2 := s_X6_fail x1 (nI 1)
  x2
set_option maxRecDepth 100000 in
set_option maxHeartbeats 400000 in
theorem c_X6_read_bl (l : Launch) (E : gE) (x : St) (i : Nat) (b : Int32) (hi : i < 4) (hb : badL b) : Ct l yX6_read wsX6_read { frames := 4, cells := 0, slots := 0, locals := 92 } E [.ref (aM E), .int (nI i), .int b] x (fun v y => v = some (.int (nI 0)) ∧ y = s_X6_read_bl x i b) 0 0 := by
  refine Ct.of (cc := cX6_read) (nL := 3) (ret := (some .int)) (by decide) rfl (Nat.le_of_ble_eq_true rfl) ?_
  intro p e s m args below meth c h hr hk hname
  refine g_lvs (lv' := [(0, _), (1, _), (2, _)]) rfl ?_
  refine g_aload_n h 0 dX6_read_0 rfl rfl ?_
  refine g_iconst (v := nI 0) h dX6_read_1 (by decide) ?_
  refine g_put (C := RX6) (T := TX6) (N := 29) h 0 tyX6 (ws_M0 E _ _) rfl in_X6_read_X6 tyX6_ok nmX6 (by decide) lk_X6_read_83 rfl rfl rfl rfl rfl (Nat.le_of_ble_eq_true rfl) dX6_read_2 ?_
  refine g_iload_n h 1 dX6_read_5 rfl rfl ?_
  refine g_callS (As := [.int (nI i)]) h 1 (c_X6_isCache_t l E _ i (by omega)) rfl gX6_read_X6_isCache rfl rfl rfl rfl (by decide +kernel) ⟨Nat.le_of_ble_eq_true rfl, Nat.le_of_ble_eq_true rfl⟩ dX6_read_6 ⟨Nat.le_refl _, Nat.le_refl _⟩ (Nat.le_of_ble_eq_true rfl) ?_
  rintro _ _ ⟨rfl, hy⟩
  obtain rfl := hy.symm
  dsimp only [Option.toList, List.cons_append, List.nil_append]
  refine g_if_eq h 19 dX6_read_9 (by decide) (fun c_9 => absurd c_9 (by decide)) (fun c_9 => ?_)
  refine g_iload_n h 2 dX6_read_12 rfl rfl ?_
  refine g_callS (As := [.int _]) h 1 (c_X6_isLine_f l E _ b hb) rfl gX6_read_X6_isLine rfl rfl rfl rfl (by decide +kernel) ⟨Nat.le_of_ble_eq_true rfl, Nat.le_of_ble_eq_true rfl⟩ dX6_read_13 ⟨Nat.le_refl _, Nat.le_refl _⟩ (Nat.le_of_ble_eq_true rfl) ?_
  rintro _ _ ⟨rfl, hy⟩
  obtain rfl := hy.symm
  dsimp only [Option.toList, List.cons_append, List.nil_append]
  refine g_if_ne h 25 dX6_read_16 (by decide) (fun c_16 => absurd c_16 (by decide)) (fun c_16 => ?_)
  refine g_aload_n h 0 dX6_read_19 rfl rfl ?_
  refine g_iconst (v := nI 1) h dX6_read_20 (by decide) ?_
  refine g_callV (As := [.int (nI 1)]) (C := RX6) h 1 (c_X6_fail l E _ 1) rfl gX6_read_X6_fail rfl rfl rfl rfl (by decide +kernel) ⟨Nat.le_of_ble_eq_true rfl, Nat.le_of_ble_eq_true rfl⟩ (wat_M E _) rfl rfl dX6_read_21 ⟨Nat.le_refl _, Nat.le_refl _⟩ (Nat.le_of_ble_eq_true rfl) ?_
  rintro _ _ ⟨rfl, hy⟩
  obtain rfl := hy.symm
  dsimp only [Option.toList, List.cons_append, List.nil_append]
  exact g_iret h hr hk dX6_read_24 (Nat.zero_le _) (Nat.zero_le _) ⟨rfl, Eq.symm rfl⟩
theorem in_X6_write_X6 : ∀ w ∈ wsX60, w ∈ wsX6_write := by decide +kernel
theorem lk_X6_write_83 : Cond.fieldLink RX6 83 "CacheDirectoryModel" "thrown" "I" ∈ wsX6_write := by decide +kernel
theorem lk_X6_write_37 : Cond.fieldLink RX6 37 "CacheDirectoryModel" "openLines" "[I" ∈ wsX6_write := by decide +kernel
theorem lk_X6_write_25 : Cond.fieldLink RX6 25 "CacheDirectoryModel" "victims" "[I" ∈ wsX6_write := by decide +kernel
theorem lk_X6_write_16 : Cond.fieldLink RX6 16 "CacheDirectoryModel" "states" "[I" ∈ wsX6_write := by decide +kernel
theorem lk_X6_write_28 : Cond.fieldLink RX6 28 "CacheDirectoryModel" "hits" "[I" ∈ wsX6_write := by decide +kernel
theorem lk_X6_write_19 : Cond.fieldLink RX6 19 "CacheDirectoryModel" "values" "[I" ∈ wsX6_write := by decide +kernel
def r_X6_write_ok (x : St) (i : Nat) (j : Nat) (d : Int32) : Nat :=
  let x1 := x.setFM 0 (nI 0)
  if d < 0 then
    let x2 := s_X6_failed x1 (nI 2)
    0
  else
    if d ≤ (nI 9999) then
      if (x1.AM 9 i) = ((-1 : Int32)) then
        if (x1.AM 5 (16 * i + j)) < 0 then
          if (x1.AM 2 (16 * i + j)) = (nI 3) then
            let x6 := x1.setAM 6 (upd (x1.AM 6) i ((x1.AM 6 i) + (nI 1)))
            let x7 := s_X6_use x6 i j
            let x8 := x7.setAM 3 (upd (x7.AM 3) (16 * i + j) d)
            1
          else
            if (nI (r_X6_canStart x1 i j)) = 0 then
              let x5 := s_X6_failed x1 (nI 3)
              0
            else
              let x4 := s_X6_start x1 i j (nI 1) d
              0
        else
          let x9 := s_X6_failed x1 (nI 3)
          0
      else
        let x3 := s_X6_failed x1 (nI 3)
        0
    else
      let x10 := s_X6_failed x1 (nI 2)
      0
def s_X6_write_ok (x : St) (i : Nat) (j : Nat) (d : Int32) : St :=
  let x1 := x.setFM 0 (nI 0)
  if d < 0 then
    let x2 := s_X6_failed x1 (nI 2)
    x2
  else
    if d ≤ (nI 9999) then
      if (x1.AM 9 i) = ((-1 : Int32)) then
        if (x1.AM 5 (16 * i + j)) < 0 then
          if (x1.AM 2 (16 * i + j)) = (nI 3) then
            let x6 := x1.setAM 6 (upd (x1.AM 6) i ((x1.AM 6 i) + (nI 1)))
            let x7 := s_X6_use x6 i j
            let x8 := x7.setAM 3 (upd (x7.AM 3) (16 * i + j) d)
            x8
          else
            if (nI (r_X6_canStart x1 i j)) = 0 then
              let x5 := s_X6_failed x1 (nI 3)
              x5
            else
              let x4 := s_X6_start x1 i j (nI 1) d
              x4
        else
          let x9 := s_X6_failed x1 (nI 3)
          x9
      else
        let x3 := s_X6_failed x1 (nI 3)
        x3
    else
      let x10 := s_X6_failed x1 (nI 2)
      x10
set_option maxRecDepth 100000 in
set_option maxHeartbeats 400000 in
theorem c_X6_write_ok (l : Launch) (E : gE) (x : St) (i : Nat) (j : Nat) (d : Int32) (hi : i < 4) (hj : j < 16) (hs : sOK x 2) : Ct l yX6_write wsX6_write { frames := 4, cells := 0, slots := 0, locals := 92 } E [.ref (aM E), .int (nI i), .int (nI j), .int d] x (fun v y => v = some (.int (nI (r_X6_write_ok x i j d))) ∧ y = s_X6_write_ok x i j d) 0 0 := by
  refine Ct.of (cc := cX6_write) (nL := 4) (ret := (some .boolean)) (by decide) rfl (Nat.le_of_ble_eq_true rfl) ?_
  intro p e s m args below meth c h hr hk hname
  refine g_lvs (lv' := [(0, _), (1, _), (2, _), (3, _)]) rfl ?_
  refine g_aload_n h 0 dX6_write_0 rfl rfl ?_
  refine g_iconst (v := nI 0) h dX6_write_1 (by decide) ?_
  refine g_put (C := RX6) (T := TX6) (N := 29) h 0 tyX6 (ws_M0 E _ _) rfl in_X6_write_X6 tyX6_ok nmX6 (by decide) lk_X6_write_83 rfl rfl rfl rfl rfl (Nat.le_of_ble_eq_true rfl) dX6_write_2 ?_
  refine g_iload_n h 1 dX6_write_5 rfl rfl ?_
  refine g_callS (As := [.int (nI i)]) h 1 (c_X6_isCache_t l E _ i (by omega)) rfl gX6_write_X6_isCache rfl rfl rfl rfl (by decide +kernel) ⟨Nat.le_of_ble_eq_true rfl, Nat.le_of_ble_eq_true rfl⟩ dX6_write_6 ⟨Nat.le_refl _, Nat.le_refl _⟩ (Nat.le_of_ble_eq_true rfl) ?_
  rintro _ _ ⟨rfl, hy⟩
  obtain rfl := hy.symm
  dsimp only [Option.toList, List.cons_append, List.nil_append]
  refine g_if_eq h 19 dX6_write_9 (by decide) (fun c_9 => absurd c_9 (by decide)) (fun c_9 => ?_)
  refine g_iload_n h 2 dX6_write_12 rfl rfl ?_
  refine g_callS (As := [.int (nI j)]) h 1 (c_X6_isLine_t l E _ j (by omega)) rfl gX6_write_X6_isLine rfl rfl rfl rfl (by decide +kernel) ⟨Nat.le_of_ble_eq_true rfl, Nat.le_of_ble_eq_true rfl⟩ dX6_write_13 ⟨Nat.le_refl _, Nat.le_refl _⟩ (Nat.le_of_ble_eq_true rfl) ?_
  rintro _ _ ⟨rfl, hy⟩
  obtain rfl := hy.symm
  dsimp only [Option.toList, List.cons_append, List.nil_append]
  refine g_if_ne h 25 dX6_write_16 (by decide) (fun c_16 => ?_) (fun c_16 => absurd c_16 (by decide))
  refine g_iload_n h 3 dX6_write_25 rfl rfl ?_
  refine g_if_lt h 36 dX6_write_26 (by decide) (fun c_26 => ?_) (fun c_26 => ?_)
  · skip
    refine g_aload_n h 0 dX6_write_36 rfl rfl ?_
    refine g_iconst (v := nI 2) h dX6_write_37 (by decide) ?_
    refine g_callV (As := [.int (nI 2)]) (C := RX6) h 1 (c_X6_failed l E _ 2) rfl gX6_write_X6_failed rfl rfl rfl rfl (by decide +kernel) ⟨Nat.le_of_ble_eq_true rfl, Nat.le_of_ble_eq_true rfl⟩ (wat_M E _) rfl rfl dX6_write_38 ⟨Nat.le_refl _, Nat.le_refl _⟩ (Nat.le_of_ble_eq_true rfl) ?_
    rintro _ _ ⟨rfl, hy⟩
    obtain rfl := hy.symm
    dsimp only [Option.toList, List.cons_append, List.nil_append]
    exact g_zret h hr hk (by decide) dX6_write_41 (Nat.zero_le _) (Nat.zero_le _) ⟨congrArg (fun z => some (Value.int (nI z))) (Eq.symm (if_pos c_26)), Eq.symm (if_pos c_26)⟩
  · skip
    refine g_iload_n h 3 dX6_write_29 rfl rfl ?_
    refine g_sipush (v := nI 9999) h dX6_write_30 (by decide) ?_
    refine g_icmp_le h 42 dX6_write_33 (by decide) (fun c_33 => ?_) (fun c_33 => ?_)
    · skip
      refine g_aload_n h 0 dX6_write_42 rfl rfl ?_
      refine g_get (C := RX6) (T := TX6) (N := 29) h 11 (wat_M E _) rfl in_X6_write_X6 (by decide) lk_X6_write_37 rfl rfl dX6_write_43 ?_
      refine g_iload_n h 1 dX6_write_46 rfl rfl ?_
      refine g_iald (n := 4) h (wat_Y E _ (i := 9) (by decide)) (by omega) (by decide) dX6_write_47 ?_
      refine g_iconst (v := -1) h dX6_write_48 (by decide) ?_
      refine g_icmp_ne h 65 dX6_write_49 (by decide) (fun c_49 => ?_) (fun c_49 => ?_)
      · skip
        refine g_aload_n h 0 dX6_write_65 rfl rfl ?_
        refine g_iconst (v := nI 3) h dX6_write_66 (by decide) ?_
        refine g_callV (As := [.int (nI 3)]) (C := RX6) h 1 (c_X6_failed l E _ 3) rfl gX6_write_X6_failed rfl rfl rfl rfl (by decide +kernel) ⟨Nat.le_of_ble_eq_true rfl, Nat.le_of_ble_eq_true rfl⟩ (wat_M E _) rfl rfl dX6_write_67 ⟨Nat.le_refl _, Nat.le_refl _⟩ (Nat.le_of_ble_eq_true rfl) ?_
        rintro _ _ ⟨rfl, hy⟩
        obtain rfl := hy.symm
        dsimp only [Option.toList, List.cons_append, List.nil_append]
        exact g_zret h hr hk (by decide) dX6_write_70 (Nat.zero_le _) (Nat.zero_le _) ⟨congrArg (fun z => some (Value.int (nI z))) (Eq.symm (Eq.trans (if_neg c_26) (Eq.trans (if_pos c_33) (if_neg c_49)))), Eq.symm (Eq.trans (if_neg c_26) (Eq.trans (if_pos c_33) (if_neg c_49)))⟩
      · skip
        refine g_aload_n h 0 dX6_write_52 rfl rfl ?_
        refine g_get (C := RX6) (T := TX6) (N := 29) h 6 (wat_M E _) rfl in_X6_write_X6 (by decide) lk_X6_write_25 rfl rfl dX6_write_53 ?_
        refine g_iload_n h 1 dX6_write_56 rfl rfl ?_
        refine g_iload_n h 2 dX6_write_57 rfl rfl ?_
        refine g_callS (As := [.int (nI i), .int (nI j)]) h 2 (c_X6_at l E _ i j (by omega) (by omega)) rfl gX6_write_X6_at rfl rfl rfl rfl (by decide +kernel) ⟨Nat.le_of_ble_eq_true rfl, Nat.le_of_ble_eq_true rfl⟩ dX6_write_58 ⟨Nat.le_refl _, Nat.le_refl _⟩ (Nat.le_of_ble_eq_true rfl) ?_
        rintro _ _ ⟨rfl, hy⟩
        obtain rfl := hy.symm
        dsimp only [Option.toList, List.cons_append, List.nil_append]
        refine g_iald (n := 64) h (wat_Y E _ (i := 5) (by decide)) (by omega) (by decide) dX6_write_61 ?_
        refine g_if_lt h 71 dX6_write_62 (by decide) (fun c_62 => ?_) (fun c_62 => ?_)
        · skip
          refine g_aload_n h 0 dX6_write_71 rfl rfl ?_
          refine g_get (C := RX6) (T := TX6) (N := 29) h 3 (wat_M E _) rfl in_X6_write_X6 (by decide) lk_X6_write_16 rfl rfl dX6_write_72 ?_
          refine g_iload_n h 1 dX6_write_75 rfl rfl ?_
          refine g_iload_n h 2 dX6_write_76 rfl rfl ?_
          refine g_callS (As := [.int (nI i), .int (nI j)]) h 2 (c_X6_at l E _ i j (by omega) (by omega)) rfl gX6_write_X6_at rfl rfl rfl rfl (by decide +kernel) ⟨Nat.le_of_ble_eq_true rfl, Nat.le_of_ble_eq_true rfl⟩ dX6_write_77 ⟨Nat.le_refl _, Nat.le_refl _⟩ (Nat.le_of_ble_eq_true rfl) ?_
          rintro _ _ ⟨rfl, hy⟩
          obtain rfl := hy.symm
          dsimp only [Option.toList, List.cons_append, List.nil_append]
          refine g_iald (n := 64) h (wat_Y E _ (i := 2) (by decide)) (by omega) (by decide) dX6_write_80 ?_
          refine g_iconst (v := nI 3) h dX6_write_81 (by decide) ?_
          refine g_icmp_ne h 114 dX6_write_82 (by decide) (fun c_82 => ?_) (fun c_82 => ?_)
          · skip
            refine g_aload_n h 0 dX6_write_114 rfl rfl ?_
            refine g_iload_n h 1 dX6_write_115 rfl rfl ?_
            refine g_iload_n h 2 dX6_write_116 rfl rfl ?_
            refine g_callV (As := [.int (nI i), .int (nI j)]) (C := RX6) h 2 (c_X6_canStart l E _ i j (by omega) (by omega)) rfl gX6_write_X6_canStart rfl rfl rfl rfl (by decide +kernel) ⟨Nat.le_of_ble_eq_true rfl, Nat.le_of_ble_eq_true rfl⟩ (wat_M E _) rfl rfl dX6_write_117 ⟨Nat.le_refl _, Nat.le_refl _⟩ (Nat.le_of_ble_eq_true rfl) ?_
            rintro _ _ ⟨rfl, hy⟩
            obtain rfl := hy.symm
            dsimp only [Option.toList, List.cons_append, List.nil_append]
            refine g_if_ne h 129 dX6_write_120 (by decide) (fun c_120 => ?_) (fun c_120 => ?_)
            · skip
              refine g_aload_n h 0 dX6_write_129 rfl rfl ?_
              refine g_iload_n h 1 dX6_write_130 rfl rfl ?_
              refine g_iload_n h 2 dX6_write_131 rfl rfl ?_
              refine g_iconst (v := nI 1) h dX6_write_132 (by decide) ?_
              refine g_iload_n h 3 dX6_write_133 rfl rfl ?_
              refine g_callV (As := [.int (nI i), .int (nI j), .int (nI 1), .int _]) (C := RX6) h 4 (c_X6_start l E _ i j _ _ (by omega) (by omega) ((sOK_FM (by decide) hs))) rfl gX6_write_X6_start rfl rfl rfl rfl (by decide +kernel) ⟨Nat.le_of_ble_eq_true rfl, Nat.le_of_ble_eq_true rfl⟩ (wat_M E _) rfl rfl dX6_write_134 ⟨Nat.le_refl _, Nat.le_refl _⟩ (Nat.le_of_ble_eq_true rfl) ?_
              rintro _ _ ⟨rfl, hy⟩
              obtain rfl := hy.symm
              dsimp only [Option.toList, List.cons_append, List.nil_append]
              refine g_iconst (v := nI 0) h dX6_write_137 (by decide) ?_
              exact g_zret h hr hk (by decide) dX6_write_138 (Nat.zero_le _) (Nat.zero_le _) ⟨congrArg (fun z => some (Value.int (nI z))) (Eq.symm (Eq.trans (if_neg c_26) (Eq.trans (if_pos c_33) (Eq.trans (if_pos c_49) (Eq.trans (if_pos c_62) (Eq.trans (if_neg c_82) (if_neg c_120))))))), Eq.symm (Eq.trans (if_neg c_26) (Eq.trans (if_pos c_33) (Eq.trans (if_pos c_49) (Eq.trans (if_pos c_62) (Eq.trans (if_neg c_82) (if_neg c_120))))))⟩
            · skip
              refine g_aload_n h 0 dX6_write_123 rfl rfl ?_
              refine g_iconst (v := nI 3) h dX6_write_124 (by decide) ?_
              refine g_callV (As := [.int (nI 3)]) (C := RX6) h 1 (c_X6_failed l E _ 3) rfl gX6_write_X6_failed rfl rfl rfl rfl (by decide +kernel) ⟨Nat.le_of_ble_eq_true rfl, Nat.le_of_ble_eq_true rfl⟩ (wat_M E _) rfl rfl dX6_write_125 ⟨Nat.le_refl _, Nat.le_refl _⟩ (Nat.le_of_ble_eq_true rfl) ?_
              rintro _ _ ⟨rfl, hy⟩
              obtain rfl := hy.symm
              dsimp only [Option.toList, List.cons_append, List.nil_append]
              exact g_zret h hr hk (by decide) dX6_write_128 (Nat.zero_le _) (Nat.zero_le _) ⟨congrArg (fun z => some (Value.int (nI z))) (Eq.symm (Eq.trans (if_neg c_26) (Eq.trans (if_pos c_33) (Eq.trans (if_pos c_49) (Eq.trans (if_pos c_62) (Eq.trans (if_neg c_82) (if_pos c_120))))))), Eq.symm (Eq.trans (if_neg c_26) (Eq.trans (if_pos c_33) (Eq.trans (if_pos c_49) (Eq.trans (if_pos c_62) (Eq.trans (if_neg c_82) (if_pos c_120))))))⟩
          · skip
            refine g_aload_n h 0 dX6_write_85 rfl rfl ?_
            refine g_get (C := RX6) (T := TX6) (N := 29) h 8 (wat_M E _) rfl in_X6_write_X6 (by decide) lk_X6_write_28 rfl rfl dX6_write_86 ?_
            refine g_iload_n h 1 dX6_write_89 rfl rfl ?_
            refine g_dup2 h dX6_write_90 rfl rfl ?_
            refine g_iald (n := 4) h (wat_Y E _ (i := 6) (by decide)) (by omega) (by decide) dX6_write_91 ?_
            refine g_iconst (v := nI 1) h dX6_write_92 (by decide) ?_
            refine g_iadd h dX6_write_93 ?_
            refine g_iast (n := 4) h (ws_Y E _ (i := 6) (by decide) _) (by omega) (by decide) dX6_write_94 ?_
            refine g_aload_n h 0 dX6_write_95 rfl rfl ?_
            refine g_iload_n h 1 dX6_write_96 rfl rfl ?_
            refine g_iload_n h 2 dX6_write_97 rfl rfl ?_
            refine g_callV (As := [.int (nI i), .int (nI j)]) (C := RX6) h 2 (c_X6_use l E _ i j (by omega) (by omega)) rfl gX6_write_X6_use rfl rfl rfl rfl (by decide +kernel) ⟨Nat.le_of_ble_eq_true rfl, Nat.le_of_ble_eq_true rfl⟩ (wat_M E _) rfl rfl dX6_write_98 ⟨Nat.le_refl _, Nat.le_refl _⟩ (Nat.le_of_ble_eq_true rfl) ?_
            rintro _ _ ⟨rfl, hy⟩
            obtain rfl := hy.symm
            dsimp only [Option.toList, List.cons_append, List.nil_append]
            refine g_aload_n h 0 dX6_write_101 rfl rfl ?_
            refine g_get (C := RX6) (T := TX6) (N := 29) h 4 (wat_M E _) rfl in_X6_write_X6 (by decide) lk_X6_write_19 rfl rfl dX6_write_102 ?_
            refine g_iload_n h 1 dX6_write_105 rfl rfl ?_
            refine g_iload_n h 2 dX6_write_106 rfl rfl ?_
            refine g_callS (As := [.int (nI i), .int (nI j)]) h 2 (c_X6_at l E _ i j (by omega) (by omega)) rfl gX6_write_X6_at rfl rfl rfl rfl (by decide +kernel) ⟨Nat.le_of_ble_eq_true rfl, Nat.le_of_ble_eq_true rfl⟩ dX6_write_107 ⟨Nat.le_refl _, Nat.le_refl _⟩ (Nat.le_of_ble_eq_true rfl) ?_
            rintro _ _ ⟨rfl, hy⟩
            obtain rfl := hy.symm
            dsimp only [Option.toList, List.cons_append, List.nil_append]
            refine g_iload_n h 3 dX6_write_110 rfl rfl ?_
            refine g_iast (n := 64) h (ws_Y E _ (i := 3) (by decide) _) (by omega) (by decide) dX6_write_111 ?_
            refine g_iconst (v := nI 1) h dX6_write_112 (by decide) ?_
            exact g_zret h hr hk (by decide) dX6_write_113 (Nat.zero_le _) (Nat.zero_le _) ⟨congrArg (fun z => some (Value.int (nI z))) (Eq.symm (Eq.trans (if_neg c_26) (Eq.trans (if_pos c_33) (Eq.trans (if_pos c_49) (Eq.trans (if_pos c_62) (if_pos c_82)))))), Eq.symm (Eq.trans (if_neg c_26) (Eq.trans (if_pos c_33) (Eq.trans (if_pos c_49) (Eq.trans (if_pos c_62) (if_pos c_82)))))⟩
        · skip
          refine g_aload_n h 0 dX6_write_65 rfl rfl ?_
          refine g_iconst (v := nI 3) h dX6_write_66 (by decide) ?_
          refine g_callV (As := [.int (nI 3)]) (C := RX6) h 1 (c_X6_failed l E _ 3) rfl gX6_write_X6_failed rfl rfl rfl rfl (by decide +kernel) ⟨Nat.le_of_ble_eq_true rfl, Nat.le_of_ble_eq_true rfl⟩ (wat_M E _) rfl rfl dX6_write_67 ⟨Nat.le_refl _, Nat.le_refl _⟩ (Nat.le_of_ble_eq_true rfl) ?_
          rintro _ _ ⟨rfl, hy⟩
          obtain rfl := hy.symm
          dsimp only [Option.toList, List.cons_append, List.nil_append]
          exact g_zret h hr hk (by decide) dX6_write_70 (Nat.zero_le _) (Nat.zero_le _) ⟨congrArg (fun z => some (Value.int (nI z))) (Eq.symm (Eq.trans (if_neg c_26) (Eq.trans (if_pos c_33) (Eq.trans (if_pos c_49) (if_neg c_62))))), Eq.symm (Eq.trans (if_neg c_26) (Eq.trans (if_pos c_33) (Eq.trans (if_pos c_49) (if_neg c_62))))⟩
    · skip
      refine g_aload_n h 0 dX6_write_36 rfl rfl ?_
      refine g_iconst (v := nI 2) h dX6_write_37 (by decide) ?_
      refine g_callV (As := [.int (nI 2)]) (C := RX6) h 1 (c_X6_failed l E _ 2) rfl gX6_write_X6_failed rfl rfl rfl rfl (by decide +kernel) ⟨Nat.le_of_ble_eq_true rfl, Nat.le_of_ble_eq_true rfl⟩ (wat_M E _) rfl rfl dX6_write_38 ⟨Nat.le_refl _, Nat.le_refl _⟩ (Nat.le_of_ble_eq_true rfl) ?_
      rintro _ _ ⟨rfl, hy⟩
      obtain rfl := hy.symm
      dsimp only [Option.toList, List.cons_append, List.nil_append]
      exact g_zret h hr hk (by decide) dX6_write_41 (Nat.zero_le _) (Nat.zero_le _) ⟨congrArg (fun z => some (Value.int (nI z))) (Eq.symm (Eq.trans (if_neg c_26) (if_neg c_33))), Eq.symm (Eq.trans (if_neg c_26) (if_neg c_33))⟩
def s_X6_write_bc (x : St) (a : Int32) (b : Int32) (d : Int32) : St :=
  let x1 := x.setFM 0 (nI 0)
  let x2 := s_X6_failed x1 (nI 1)
  x2
set_option maxRecDepth 100000 in
set_option maxHeartbeats 400000 in
theorem c_X6_write_bc (l : Launch) (E : gE) (x : St) (a : Int32) (b : Int32) (d : Int32) (ha : badC a) : Ct l yX6_write wsX6_write { frames := 4, cells := 0, slots := 0, locals := 92 } E [.ref (aM E), .int a, .int b, .int d] x (fun v y => v = some (.int (nI 0)) ∧ y = s_X6_write_bc x a b d) 0 0 := by
  refine Ct.of (cc := cX6_write) (nL := 4) (ret := (some .boolean)) (by decide) rfl (Nat.le_of_ble_eq_true rfl) ?_
  intro p e s m args below meth c h hr hk hname
  refine g_lvs (lv' := [(0, _), (1, _), (2, _), (3, _)]) rfl ?_
  refine g_aload_n h 0 dX6_write_0 rfl rfl ?_
  refine g_iconst (v := nI 0) h dX6_write_1 (by decide) ?_
  refine g_put (C := RX6) (T := TX6) (N := 29) h 0 tyX6 (ws_M0 E _ _) rfl in_X6_write_X6 tyX6_ok nmX6 (by decide) lk_X6_write_83 rfl rfl rfl rfl rfl (Nat.le_of_ble_eq_true rfl) dX6_write_2 ?_
  refine g_iload_n h 1 dX6_write_5 rfl rfl ?_
  refine g_callS (As := [.int _]) h 1 (c_X6_isCache_f l E _ a ha) rfl gX6_write_X6_isCache rfl rfl rfl rfl (by decide +kernel) ⟨Nat.le_of_ble_eq_true rfl, Nat.le_of_ble_eq_true rfl⟩ dX6_write_6 ⟨Nat.le_refl _, Nat.le_refl _⟩ (Nat.le_of_ble_eq_true rfl) ?_
  rintro _ _ ⟨rfl, hy⟩
  obtain rfl := hy.symm
  dsimp only [Option.toList, List.cons_append, List.nil_append]
  refine g_if_eq h 19 dX6_write_9 (by decide) (fun c_9 => ?_) (fun c_9 => absurd c_9 (by decide))
  refine g_aload_n h 0 dX6_write_19 rfl rfl ?_
  refine g_iconst (v := nI 1) h dX6_write_20 (by decide) ?_
  refine g_callV (As := [.int (nI 1)]) (C := RX6) h 1 (c_X6_failed l E _ 1) rfl gX6_write_X6_failed rfl rfl rfl rfl (by decide +kernel) ⟨Nat.le_of_ble_eq_true rfl, Nat.le_of_ble_eq_true rfl⟩ (wat_M E _) rfl rfl dX6_write_21 ⟨Nat.le_refl _, Nat.le_refl _⟩ (Nat.le_of_ble_eq_true rfl) ?_
  rintro _ _ ⟨rfl, hy⟩
  obtain rfl := hy.symm
  dsimp only [Option.toList, List.cons_append, List.nil_append]
  exact g_zret h hr hk (by decide) dX6_write_24 (Nat.zero_le _) (Nat.zero_le _) ⟨rfl, Eq.symm rfl⟩
def s_X6_write_bl (x : St) (i : Nat) (b : Int32) (d : Int32) : St :=
  let x1 := x.setFM 0 (nI 0)
  let x2 := s_X6_failed x1 (nI 1)
  x2
set_option maxRecDepth 100000 in
set_option maxHeartbeats 400000 in
theorem c_X6_write_bl (l : Launch) (E : gE) (x : St) (i : Nat) (b : Int32) (d : Int32) (hi : i < 4) (hb : badL b) : Ct l yX6_write wsX6_write { frames := 4, cells := 0, slots := 0, locals := 92 } E [.ref (aM E), .int (nI i), .int b, .int d] x (fun v y => v = some (.int (nI 0)) ∧ y = s_X6_write_bl x i b d) 0 0 := by
  refine Ct.of (cc := cX6_write) (nL := 4) (ret := (some .boolean)) (by decide) rfl (Nat.le_of_ble_eq_true rfl) ?_
  intro p e s m args below meth c h hr hk hname
  refine g_lvs (lv' := [(0, _), (1, _), (2, _), (3, _)]) rfl ?_
  refine g_aload_n h 0 dX6_write_0 rfl rfl ?_
  refine g_iconst (v := nI 0) h dX6_write_1 (by decide) ?_
  refine g_put (C := RX6) (T := TX6) (N := 29) h 0 tyX6 (ws_M0 E _ _) rfl in_X6_write_X6 tyX6_ok nmX6 (by decide) lk_X6_write_83 rfl rfl rfl rfl rfl (Nat.le_of_ble_eq_true rfl) dX6_write_2 ?_
  refine g_iload_n h 1 dX6_write_5 rfl rfl ?_
  refine g_callS (As := [.int (nI i)]) h 1 (c_X6_isCache_t l E _ i (by omega)) rfl gX6_write_X6_isCache rfl rfl rfl rfl (by decide +kernel) ⟨Nat.le_of_ble_eq_true rfl, Nat.le_of_ble_eq_true rfl⟩ dX6_write_6 ⟨Nat.le_refl _, Nat.le_refl _⟩ (Nat.le_of_ble_eq_true rfl) ?_
  rintro _ _ ⟨rfl, hy⟩
  obtain rfl := hy.symm
  dsimp only [Option.toList, List.cons_append, List.nil_append]
  refine g_if_eq h 19 dX6_write_9 (by decide) (fun c_9 => absurd c_9 (by decide)) (fun c_9 => ?_)
  refine g_iload_n h 2 dX6_write_12 rfl rfl ?_
  refine g_callS (As := [.int _]) h 1 (c_X6_isLine_f l E _ b hb) rfl gX6_write_X6_isLine rfl rfl rfl rfl (by decide +kernel) ⟨Nat.le_of_ble_eq_true rfl, Nat.le_of_ble_eq_true rfl⟩ dX6_write_13 ⟨Nat.le_refl _, Nat.le_refl _⟩ (Nat.le_of_ble_eq_true rfl) ?_
  rintro _ _ ⟨rfl, hy⟩
  obtain rfl := hy.symm
  dsimp only [Option.toList, List.cons_append, List.nil_append]
  refine g_if_ne h 25 dX6_write_16 (by decide) (fun c_16 => absurd c_16 (by decide)) (fun c_16 => ?_)
  refine g_aload_n h 0 dX6_write_19 rfl rfl ?_
  refine g_iconst (v := nI 1) h dX6_write_20 (by decide) ?_
  refine g_callV (As := [.int (nI 1)]) (C := RX6) h 1 (c_X6_failed l E _ 1) rfl gX6_write_X6_failed rfl rfl rfl rfl (by decide +kernel) ⟨Nat.le_of_ble_eq_true rfl, Nat.le_of_ble_eq_true rfl⟩ (wat_M E _) rfl rfl dX6_write_21 ⟨Nat.le_refl _, Nat.le_refl _⟩ (Nat.le_of_ble_eq_true rfl) ?_
  rintro _ _ ⟨rfl, hy⟩
  obtain rfl := hy.symm
  dsimp only [Option.toList, List.cons_append, List.nil_append]
  exact g_zret h hr hk (by decide) dX6_write_24 (Nat.zero_le _) (Nat.zero_le _) ⟨rfl, Eq.symm rfl⟩
theorem in_X6_evict_X6 : ∀ w ∈ wsX60, w ∈ wsX6_evict := by decide +kernel
theorem lk_X6_evict_83 : Cond.fieldLink RX6 83 "CacheDirectoryModel" "thrown" "I" ∈ wsX6_evict := by decide +kernel
theorem lk_X6_evict_16 : Cond.fieldLink RX6 16 "CacheDirectoryModel" "states" "[I" ∈ wsX6_evict := by decide +kernel
theorem lk_X6_evict_37 : Cond.fieldLink RX6 37 "CacheDirectoryModel" "openLines" "[I" ∈ wsX6_evict := by decide +kernel
def r_X6_evict_ok (x : St) (i : Nat) (j : Nat) : Int32 :=
  let x1 := x.setFM 0 (nI 0)
  if (x1.AM 2 (16 * i + j)) = 0 then
    let x5 := s_X6_fail x1 (nI 2)
    nI 0
  else
    if (x1.AM 9 i) = (nI j) then
      let x2 := s_X6_fail x1 (nI 3)
      nI 0
    else
      if (nI (r_X6_canRemove x1 i j)) = 0 then
        let x4 := s_X6_fail x1 (nI 3)
        nI 0
      else
        let x3 := s_X6_remove x1 i j
        x1.AM 2 (16 * i + j)
def s_X6_evict_ok (x : St) (i : Nat) (j : Nat) : St :=
  let x1 := x.setFM 0 (nI 0)
  if (x1.AM 2 (16 * i + j)) = 0 then
    let x5 := s_X6_fail x1 (nI 2)
    x5
  else
    if (x1.AM 9 i) = (nI j) then
      let x2 := s_X6_fail x1 (nI 3)
      x2
    else
      if (nI (r_X6_canRemove x1 i j)) = 0 then
        let x4 := s_X6_fail x1 (nI 3)
        x4
      else
        let x3 := s_X6_remove x1 i j
        x3
set_option maxRecDepth 100000 in
set_option maxHeartbeats 400000 in
theorem c_X6_evict_ok (l : Launch) (E : gE) (x : St) (i : Nat) (j : Nat) (hi : i < 4) (hj : j < 16) (hs : sOK x 2) : Ct l yX6_evict wsX6_evict { frames := 3, cells := 0, slots := 0, locals := 66 } E [.ref (aM E), .int (nI i), .int (nI j)] x (fun v y => v = some (.int (r_X6_evict_ok x i j)) ∧ y = s_X6_evict_ok x i j) 0 0 := by
  refine Ct.of (cc := cX6_evict) (nL := 4) (ret := (some .int)) (by decide) rfl (Nat.le_of_ble_eq_true rfl) ?_
  intro p e s m args below meth c h hr hk hname
  refine g_lvs (lv' := [(0, _), (1, _), (2, _)]) rfl ?_
  refine g_aload_n h 0 dX6_evict_0 rfl rfl ?_
  refine g_iconst (v := nI 0) h dX6_evict_1 (by decide) ?_
  refine g_put (C := RX6) (T := TX6) (N := 29) h 0 tyX6 (ws_M0 E _ _) rfl in_X6_evict_X6 tyX6_ok nmX6 (by decide) lk_X6_evict_83 rfl rfl rfl rfl rfl (Nat.le_of_ble_eq_true rfl) dX6_evict_2 ?_
  refine g_iload_n h 1 dX6_evict_5 rfl rfl ?_
  refine g_callS (As := [.int (nI i)]) h 1 (c_X6_isCache_t l E _ i (by omega)) rfl gX6_evict_X6_isCache rfl rfl rfl rfl (by decide +kernel) ⟨Nat.le_of_ble_eq_true rfl, Nat.le_of_ble_eq_true rfl⟩ dX6_evict_6 ⟨Nat.le_refl _, Nat.le_refl _⟩ (Nat.le_of_ble_eq_true rfl) ?_
  rintro _ _ ⟨rfl, hy⟩
  obtain rfl := hy.symm
  dsimp only [Option.toList, List.cons_append, List.nil_append]
  refine g_if_eq h 19 dX6_evict_9 (by decide) (fun c_9 => absurd c_9 (by decide)) (fun c_9 => ?_)
  refine g_iload_n h 2 dX6_evict_12 rfl rfl ?_
  refine g_callS (As := [.int (nI j)]) h 1 (c_X6_isLine_t l E _ j (by omega)) rfl gX6_evict_X6_isLine rfl rfl rfl rfl (by decide +kernel) ⟨Nat.le_of_ble_eq_true rfl, Nat.le_of_ble_eq_true rfl⟩ dX6_evict_13 ⟨Nat.le_refl _, Nat.le_refl _⟩ (Nat.le_of_ble_eq_true rfl) ?_
  rintro _ _ ⟨rfl, hy⟩
  obtain rfl := hy.symm
  dsimp only [Option.toList, List.cons_append, List.nil_append]
  refine g_if_ne h 25 dX6_evict_16 (by decide) (fun c_16 => ?_) (fun c_16 => absurd c_16 (by decide))
  refine g_aload_n h 0 dX6_evict_25 rfl rfl ?_
  refine g_get (C := RX6) (T := TX6) (N := 29) h 3 (wat_M E _) rfl in_X6_evict_X6 (by decide) lk_X6_evict_16 rfl rfl dX6_evict_26 ?_
  refine g_iload_n h 1 dX6_evict_29 rfl rfl ?_
  refine g_iload_n h 2 dX6_evict_30 rfl rfl ?_
  refine g_callS (As := [.int (nI i), .int (nI j)]) h 2 (c_X6_at l E _ i j (by omega) (by omega)) rfl gX6_evict_X6_at rfl rfl rfl rfl (by decide +kernel) ⟨Nat.le_of_ble_eq_true rfl, Nat.le_of_ble_eq_true rfl⟩ dX6_evict_31 ⟨Nat.le_refl _, Nat.le_refl _⟩ (Nat.le_of_ble_eq_true rfl) ?_
  rintro _ _ ⟨rfl, hy⟩
  obtain rfl := hy.symm
  dsimp only [Option.toList, List.cons_append, List.nil_append]
  refine g_iald (n := 64) h (wat_Y E _ (i := 2) (by decide)) (by omega) (by decide) dX6_evict_34 ?_
  refine g_istore_n (lv' := [(0, _), (1, _), (2, _), (3, _)]) h [1, 2, 3, 0] dX6_evict_35 rfl (by decide) rfl ?_
  refine g_iload_n h 3 dX6_evict_36 rfl rfl ?_
  refine g_if_ne h 46 dX6_evict_37 (by decide) (fun c_37 => ?_) (fun c_37 => ?_)
  · skip
    refine g_aload_n h 0 dX6_evict_46 rfl rfl ?_
    refine g_get (C := RX6) (T := TX6) (N := 29) h 11 (wat_M E _) rfl in_X6_evict_X6 (by decide) lk_X6_evict_37 rfl rfl dX6_evict_47 ?_
    refine g_iload_n h 1 dX6_evict_50 rfl rfl ?_
    refine g_iald (n := 4) h (wat_Y E _ (i := 9) (by decide)) (by omega) (by decide) dX6_evict_51 ?_
    refine g_iload_n h 2 dX6_evict_52 rfl rfl ?_
    refine g_icmp_eq h 65 dX6_evict_53 (by decide) (fun c_53 => ?_) (fun c_53 => ?_)
    · skip
      refine g_aload_n h 0 dX6_evict_65 rfl rfl ?_
      refine g_iconst (v := nI 3) h dX6_evict_66 (by decide) ?_
      refine g_callV (As := [.int (nI 3)]) (C := RX6) h 1 (c_X6_fail l E _ 3) rfl gX6_evict_X6_fail rfl rfl rfl rfl (by decide +kernel) ⟨Nat.le_of_ble_eq_true rfl, Nat.le_of_ble_eq_true rfl⟩ (wat_M E _) rfl rfl dX6_evict_67 ⟨Nat.le_refl _, Nat.le_refl _⟩ (Nat.le_of_ble_eq_true rfl) ?_
      rintro _ _ ⟨rfl, hy⟩
      obtain rfl := hy.symm
      dsimp only [Option.toList, List.cons_append, List.nil_append]
      exact g_iret h hr hk dX6_evict_70 (Nat.zero_le _) (Nat.zero_le _) ⟨congrArg (fun z => some (Value.int z)) (Eq.symm (Eq.trans (if_neg c_37) (if_pos c_53))), Eq.symm (Eq.trans (if_neg c_37) (if_pos c_53))⟩
    · skip
      refine g_aload_n h 0 dX6_evict_56 rfl rfl ?_
      refine g_iload_n h 1 dX6_evict_57 rfl rfl ?_
      refine g_iload_n h 2 dX6_evict_58 rfl rfl ?_
      refine g_callV (As := [.int (nI i), .int (nI j)]) (C := RX6) h 2 (c_X6_canRemove l E _ i j (by omega) (by omega)) rfl gX6_evict_X6_canRemove rfl rfl rfl rfl (by decide +kernel) ⟨Nat.le_of_ble_eq_true rfl, Nat.le_of_ble_eq_true rfl⟩ (wat_M E _) rfl rfl dX6_evict_59 ⟨Nat.le_refl _, Nat.le_refl _⟩ (Nat.le_of_ble_eq_true rfl) ?_
      rintro _ _ ⟨rfl, hy⟩
      obtain rfl := hy.symm
      dsimp only [Option.toList, List.cons_append, List.nil_append]
      refine g_if_ne h 71 dX6_evict_62 (by decide) (fun c_62 => ?_) (fun c_62 => ?_)
      · skip
        refine g_aload_n h 0 dX6_evict_71 rfl rfl ?_
        refine g_iload_n h 1 dX6_evict_72 rfl rfl ?_
        refine g_iload_n h 2 dX6_evict_73 rfl rfl ?_
        refine g_callV (As := [.int (nI i), .int (nI j)]) (C := RX6) h 2 (c_X6_remove l E _ i j (by omega) (by omega) (sOK.mono ((sOK_FM (by decide) hs)) (by omega))) rfl gX6_evict_X6_remove rfl rfl rfl rfl (by decide +kernel) ⟨Nat.le_of_ble_eq_true rfl, Nat.le_of_ble_eq_true rfl⟩ (wat_M E _) rfl rfl dX6_evict_74 ⟨Nat.le_refl _, Nat.le_refl _⟩ (Nat.le_of_ble_eq_true rfl) ?_
        rintro _ _ ⟨rfl, hy⟩
        obtain rfl := hy.symm
        dsimp only [Option.toList, List.cons_append, List.nil_append]
        refine g_iload_n h 3 dX6_evict_77 rfl rfl ?_
        exact g_iret h hr hk dX6_evict_78 (Nat.zero_le _) (Nat.zero_le _) ⟨congrArg (fun z => some (Value.int z)) (Eq.symm (Eq.trans (if_neg c_37) (Eq.trans (if_neg c_53) (if_neg c_62)))), Eq.symm (Eq.trans (if_neg c_37) (Eq.trans (if_neg c_53) (if_neg c_62)))⟩
      · skip
        refine g_aload_n h 0 dX6_evict_65 rfl rfl ?_
        refine g_iconst (v := nI 3) h dX6_evict_66 (by decide) ?_
        refine g_callV (As := [.int (nI 3)]) (C := RX6) h 1 (c_X6_fail l E _ 3) rfl gX6_evict_X6_fail rfl rfl rfl rfl (by decide +kernel) ⟨Nat.le_of_ble_eq_true rfl, Nat.le_of_ble_eq_true rfl⟩ (wat_M E _) rfl rfl dX6_evict_67 ⟨Nat.le_refl _, Nat.le_refl _⟩ (Nat.le_of_ble_eq_true rfl) ?_
        rintro _ _ ⟨rfl, hy⟩
        obtain rfl := hy.symm
        dsimp only [Option.toList, List.cons_append, List.nil_append]
        exact g_iret h hr hk dX6_evict_70 (Nat.zero_le _) (Nat.zero_le _) ⟨congrArg (fun z => some (Value.int z)) (Eq.symm (Eq.trans (if_neg c_37) (Eq.trans (if_neg c_53) (if_pos c_62)))), Eq.symm (Eq.trans (if_neg c_37) (Eq.trans (if_neg c_53) (if_pos c_62)))⟩
  · skip
    refine g_aload_n h 0 dX6_evict_40 rfl rfl ?_
    refine g_iconst (v := nI 2) h dX6_evict_41 (by decide) ?_
    refine g_callV (As := [.int (nI 2)]) (C := RX6) h 1 (c_X6_fail l E _ 2) rfl gX6_evict_X6_fail rfl rfl rfl rfl (by decide +kernel) ⟨Nat.le_of_ble_eq_true rfl, Nat.le_of_ble_eq_true rfl⟩ (wat_M E _) rfl rfl dX6_evict_42 ⟨Nat.le_refl _, Nat.le_refl _⟩ (Nat.le_of_ble_eq_true rfl) ?_
    rintro _ _ ⟨rfl, hy⟩
    obtain rfl := hy.symm
    dsimp only [Option.toList, List.cons_append, List.nil_append]
    exact g_iret h hr hk dX6_evict_45 (Nat.zero_le _) (Nat.zero_le _) ⟨congrArg (fun z => some (Value.int z)) (Eq.symm (if_pos c_37)), Eq.symm (if_pos c_37)⟩
def s_X6_evict_bc (x : St) (a : Int32) (b : Int32) : St :=
  let x1 := x.setFM 0 (nI 0)
  let x2 := s_X6_fail x1 (nI 1)
  x2
set_option maxRecDepth 100000 in
set_option maxHeartbeats 400000 in
theorem c_X6_evict_bc (l : Launch) (E : gE) (x : St) (a : Int32) (b : Int32) (ha : badC a) : Ct l yX6_evict wsX6_evict { frames := 3, cells := 0, slots := 0, locals := 66 } E [.ref (aM E), .int a, .int b] x (fun v y => v = some (.int (nI 0)) ∧ y = s_X6_evict_bc x a b) 0 0 := by
  refine Ct.of (cc := cX6_evict) (nL := 4) (ret := (some .int)) (by decide) rfl (Nat.le_of_ble_eq_true rfl) ?_
  intro p e s m args below meth c h hr hk hname
  refine g_lvs (lv' := [(0, _), (1, _), (2, _)]) rfl ?_
  refine g_aload_n h 0 dX6_evict_0 rfl rfl ?_
  refine g_iconst (v := nI 0) h dX6_evict_1 (by decide) ?_
  refine g_put (C := RX6) (T := TX6) (N := 29) h 0 tyX6 (ws_M0 E _ _) rfl in_X6_evict_X6 tyX6_ok nmX6 (by decide) lk_X6_evict_83 rfl rfl rfl rfl rfl (Nat.le_of_ble_eq_true rfl) dX6_evict_2 ?_
  refine g_iload_n h 1 dX6_evict_5 rfl rfl ?_
  refine g_callS (As := [.int _]) h 1 (c_X6_isCache_f l E _ a ha) rfl gX6_evict_X6_isCache rfl rfl rfl rfl (by decide +kernel) ⟨Nat.le_of_ble_eq_true rfl, Nat.le_of_ble_eq_true rfl⟩ dX6_evict_6 ⟨Nat.le_refl _, Nat.le_refl _⟩ (Nat.le_of_ble_eq_true rfl) ?_
  rintro _ _ ⟨rfl, hy⟩
  obtain rfl := hy.symm
  dsimp only [Option.toList, List.cons_append, List.nil_append]
  refine g_if_eq h 19 dX6_evict_9 (by decide) (fun c_9 => ?_) (fun c_9 => absurd c_9 (by decide))
  refine g_aload_n h 0 dX6_evict_19 rfl rfl ?_
  refine g_iconst (v := nI 1) h dX6_evict_20 (by decide) ?_
  refine g_callV (As := [.int (nI 1)]) (C := RX6) h 1 (c_X6_fail l E _ 1) rfl gX6_evict_X6_fail rfl rfl rfl rfl (by decide +kernel) ⟨Nat.le_of_ble_eq_true rfl, Nat.le_of_ble_eq_true rfl⟩ (wat_M E _) rfl rfl dX6_evict_21 ⟨Nat.le_refl _, Nat.le_refl _⟩ (Nat.le_of_ble_eq_true rfl) ?_
  rintro _ _ ⟨rfl, hy⟩
  obtain rfl := hy.symm
  dsimp only [Option.toList, List.cons_append, List.nil_append]
  exact g_iret h hr hk dX6_evict_24 (Nat.zero_le _) (Nat.zero_le _) ⟨rfl, Eq.symm rfl⟩
def s_X6_evict_bl (x : St) (i : Nat) (b : Int32) : St :=
  let x1 := x.setFM 0 (nI 0)
  let x2 := s_X6_fail x1 (nI 1)
  x2
set_option maxRecDepth 100000 in
set_option maxHeartbeats 400000 in
theorem c_X6_evict_bl (l : Launch) (E : gE) (x : St) (i : Nat) (b : Int32) (hi : i < 4) (hb : badL b) : Ct l yX6_evict wsX6_evict { frames := 3, cells := 0, slots := 0, locals := 66 } E [.ref (aM E), .int (nI i), .int b] x (fun v y => v = some (.int (nI 0)) ∧ y = s_X6_evict_bl x i b) 0 0 := by
  refine Ct.of (cc := cX6_evict) (nL := 4) (ret := (some .int)) (by decide) rfl (Nat.le_of_ble_eq_true rfl) ?_
  intro p e s m args below meth c h hr hk hname
  refine g_lvs (lv' := [(0, _), (1, _), (2, _)]) rfl ?_
  refine g_aload_n h 0 dX6_evict_0 rfl rfl ?_
  refine g_iconst (v := nI 0) h dX6_evict_1 (by decide) ?_
  refine g_put (C := RX6) (T := TX6) (N := 29) h 0 tyX6 (ws_M0 E _ _) rfl in_X6_evict_X6 tyX6_ok nmX6 (by decide) lk_X6_evict_83 rfl rfl rfl rfl rfl (Nat.le_of_ble_eq_true rfl) dX6_evict_2 ?_
  refine g_iload_n h 1 dX6_evict_5 rfl rfl ?_
  refine g_callS (As := [.int (nI i)]) h 1 (c_X6_isCache_t l E _ i (by omega)) rfl gX6_evict_X6_isCache rfl rfl rfl rfl (by decide +kernel) ⟨Nat.le_of_ble_eq_true rfl, Nat.le_of_ble_eq_true rfl⟩ dX6_evict_6 ⟨Nat.le_refl _, Nat.le_refl _⟩ (Nat.le_of_ble_eq_true rfl) ?_
  rintro _ _ ⟨rfl, hy⟩
  obtain rfl := hy.symm
  dsimp only [Option.toList, List.cons_append, List.nil_append]
  refine g_if_eq h 19 dX6_evict_9 (by decide) (fun c_9 => absurd c_9 (by decide)) (fun c_9 => ?_)
  refine g_iload_n h 2 dX6_evict_12 rfl rfl ?_
  refine g_callS (As := [.int _]) h 1 (c_X6_isLine_f l E _ b hb) rfl gX6_evict_X6_isLine rfl rfl rfl rfl (by decide +kernel) ⟨Nat.le_of_ble_eq_true rfl, Nat.le_of_ble_eq_true rfl⟩ dX6_evict_13 ⟨Nat.le_refl _, Nat.le_refl _⟩ (Nat.le_of_ble_eq_true rfl) ?_
  rintro _ _ ⟨rfl, hy⟩
  obtain rfl := hy.symm
  dsimp only [Option.toList, List.cons_append, List.nil_append]
  refine g_if_ne h 25 dX6_evict_16 (by decide) (fun c_16 => absurd c_16 (by decide)) (fun c_16 => ?_)
  refine g_aload_n h 0 dX6_evict_19 rfl rfl ?_
  refine g_iconst (v := nI 1) h dX6_evict_20 (by decide) ?_
  refine g_callV (As := [.int (nI 1)]) (C := RX6) h 1 (c_X6_fail l E _ 1) rfl gX6_evict_X6_fail rfl rfl rfl rfl (by decide +kernel) ⟨Nat.le_of_ble_eq_true rfl, Nat.le_of_ble_eq_true rfl⟩ (wat_M E _) rfl rfl dX6_evict_21 ⟨Nat.le_refl _, Nat.le_refl _⟩ (Nat.le_of_ble_eq_true rfl) ?_
  rintro _ _ ⟨rfl, hy⟩
  obtain rfl := hy.symm
  dsimp only [Option.toList, List.cons_append, List.nil_append]
  exact g_iret h hr hk dX6_evict_24 (Nat.zero_le _) (Nat.zero_le _) ⟨rfl, Eq.symm rfl⟩
theorem in_X6_state_X6 : ∀ w ∈ wsX60, w ∈ wsX6_state := by decide +kernel
theorem lk_X6_state_83 : Cond.fieldLink RX6 83 "CacheDirectoryModel" "thrown" "I" ∈ wsX6_state := by decide +kernel
theorem lk_X6_state_16 : Cond.fieldLink RX6 16 "CacheDirectoryModel" "states" "[I" ∈ wsX6_state := by decide +kernel
def r_X6_state_ok (x : St) (i : Nat) (j : Nat) : Int32 :=
  let x1 := x.setFM 0 (nI 0)
  x1.AM 2 (16 * i + j)
def s_X6_state_ok (x : St) (i : Nat) (j : Nat) : St :=
  let x1 := x.setFM 0 (nI 0)
  x1
set_option maxRecDepth 100000 in
set_option maxHeartbeats 400000 in
theorem c_X6_state_ok (l : Launch) (E : gE) (x : St) (i : Nat) (j : Nat) (hi : i < 4) (hj : j < 16) : Ct l yX6_state wsX6_state { frames := 1, cells := 0, slots := 0, locals := 21 } E [.ref (aM E), .int (nI i), .int (nI j)] x (fun v y => v = some (.int (r_X6_state_ok x i j)) ∧ y = s_X6_state_ok x i j) 0 0 := by
  refine Ct.of (cc := cX6_state) (nL := 3) (ret := (some .int)) (by decide) rfl (Nat.le_of_ble_eq_true rfl) ?_
  intro p e s m args below meth c h hr hk hname
  refine g_lvs (lv' := [(0, _), (1, _), (2, _)]) rfl ?_
  refine g_aload_n h 0 dX6_state_0 rfl rfl ?_
  refine g_iconst (v := nI 0) h dX6_state_1 (by decide) ?_
  refine g_put (C := RX6) (T := TX6) (N := 29) h 0 tyX6 (ws_M0 E _ _) rfl in_X6_state_X6 tyX6_ok nmX6 (by decide) lk_X6_state_83 rfl rfl rfl rfl rfl (Nat.le_of_ble_eq_true rfl) dX6_state_2 ?_
  refine g_iload_n h 1 dX6_state_5 rfl rfl ?_
  refine g_callS (As := [.int (nI i)]) h 1 (c_X6_isCache_t l E _ i (by omega)) rfl gX6_state_X6_isCache rfl rfl rfl rfl (by decide +kernel) ⟨Nat.le_of_ble_eq_true rfl, Nat.le_of_ble_eq_true rfl⟩ dX6_state_6 ⟨Nat.le_refl _, Nat.le_refl _⟩ (Nat.le_of_ble_eq_true rfl) ?_
  rintro _ _ ⟨rfl, hy⟩
  obtain rfl := hy.symm
  dsimp only [Option.toList, List.cons_append, List.nil_append]
  refine g_if_eq h 32 dX6_state_9 (by decide) (fun c_9 => absurd c_9 (by decide)) (fun c_9 => ?_)
  refine g_iload_n h 2 dX6_state_12 rfl rfl ?_
  refine g_callS (As := [.int (nI j)]) h 1 (c_X6_isLine_t l E _ j (by omega)) rfl gX6_state_X6_isLine rfl rfl rfl rfl (by decide +kernel) ⟨Nat.le_of_ble_eq_true rfl, Nat.le_of_ble_eq_true rfl⟩ dX6_state_13 ⟨Nat.le_refl _, Nat.le_refl _⟩ (Nat.le_of_ble_eq_true rfl) ?_
  rintro _ _ ⟨rfl, hy⟩
  obtain rfl := hy.symm
  dsimp only [Option.toList, List.cons_append, List.nil_append]
  refine g_if_eq h 32 dX6_state_16 (by decide) (fun c_16 => absurd c_16 (by decide)) (fun c_16 => ?_)
  refine g_aload_n h 0 dX6_state_19 rfl rfl ?_
  refine g_get (C := RX6) (T := TX6) (N := 29) h 3 (wat_M E _) rfl in_X6_state_X6 (by decide) lk_X6_state_16 rfl rfl dX6_state_20 ?_
  refine g_iload_n h 1 dX6_state_23 rfl rfl ?_
  refine g_iload_n h 2 dX6_state_24 rfl rfl ?_
  refine g_callS (As := [.int (nI i), .int (nI j)]) h 2 (c_X6_at l E _ i j (by omega) (by omega)) rfl gX6_state_X6_at rfl rfl rfl rfl (by decide +kernel) ⟨Nat.le_of_ble_eq_true rfl, Nat.le_of_ble_eq_true rfl⟩ dX6_state_25 ⟨Nat.le_refl _, Nat.le_refl _⟩ (Nat.le_of_ble_eq_true rfl) ?_
  rintro _ _ ⟨rfl, hy⟩
  obtain rfl := hy.symm
  dsimp only [Option.toList, List.cons_append, List.nil_append]
  refine g_iald (n := 64) h (wat_Y E _ (i := 2) (by decide)) (by omega) (by decide) dX6_state_28 ?_
  refine g_goto h 37 dX6_state_29 (by decide) ?_
  exact g_iret h hr hk dX6_state_37 (Nat.zero_le _) (Nat.zero_le _) ⟨congrArg (fun z => some (Value.int z)) (Eq.symm rfl), Eq.symm rfl⟩
def s_X6_state_bc (x : St) (a : Int32) (b : Int32) : St :=
  let x1 := x.setFM 0 (nI 0)
  let x2 := s_X6_fail x1 (nI 1)
  x2
set_option maxRecDepth 100000 in
set_option maxHeartbeats 400000 in
theorem c_X6_state_bc (l : Launch) (E : gE) (x : St) (a : Int32) (b : Int32) (ha : badC a) : Ct l yX6_state wsX6_state { frames := 1, cells := 0, slots := 0, locals := 21 } E [.ref (aM E), .int a, .int b] x (fun v y => v = some (.int (nI 0)) ∧ y = s_X6_state_bc x a b) 0 0 := by
  refine Ct.of (cc := cX6_state) (nL := 3) (ret := (some .int)) (by decide) rfl (Nat.le_of_ble_eq_true rfl) ?_
  intro p e s m args below meth c h hr hk hname
  refine g_lvs (lv' := [(0, _), (1, _), (2, _)]) rfl ?_
  refine g_aload_n h 0 dX6_state_0 rfl rfl ?_
  refine g_iconst (v := nI 0) h dX6_state_1 (by decide) ?_
  refine g_put (C := RX6) (T := TX6) (N := 29) h 0 tyX6 (ws_M0 E _ _) rfl in_X6_state_X6 tyX6_ok nmX6 (by decide) lk_X6_state_83 rfl rfl rfl rfl rfl (Nat.le_of_ble_eq_true rfl) dX6_state_2 ?_
  refine g_iload_n h 1 dX6_state_5 rfl rfl ?_
  refine g_callS (As := [.int _]) h 1 (c_X6_isCache_f l E _ a ha) rfl gX6_state_X6_isCache rfl rfl rfl rfl (by decide +kernel) ⟨Nat.le_of_ble_eq_true rfl, Nat.le_of_ble_eq_true rfl⟩ dX6_state_6 ⟨Nat.le_refl _, Nat.le_refl _⟩ (Nat.le_of_ble_eq_true rfl) ?_
  rintro _ _ ⟨rfl, hy⟩
  obtain rfl := hy.symm
  dsimp only [Option.toList, List.cons_append, List.nil_append]
  refine g_if_eq h 32 dX6_state_9 (by decide) (fun c_9 => ?_) (fun c_9 => absurd c_9 (by decide))
  refine g_aload_n h 0 dX6_state_32 rfl rfl ?_
  refine g_iconst (v := nI 1) h dX6_state_33 (by decide) ?_
  refine g_callV (As := [.int (nI 1)]) (C := RX6) h 1 (c_X6_fail l E _ 1) rfl gX6_state_X6_fail rfl rfl rfl rfl (by decide +kernel) ⟨Nat.le_of_ble_eq_true rfl, Nat.le_of_ble_eq_true rfl⟩ (wat_M E _) rfl rfl dX6_state_34 ⟨Nat.le_refl _, Nat.le_refl _⟩ (Nat.le_of_ble_eq_true rfl) ?_
  rintro _ _ ⟨rfl, hy⟩
  obtain rfl := hy.symm
  dsimp only [Option.toList, List.cons_append, List.nil_append]
  exact g_iret h hr hk dX6_state_37 (Nat.zero_le _) (Nat.zero_le _) ⟨rfl, Eq.symm rfl⟩
def s_X6_state_bl (x : St) (i : Nat) (b : Int32) : St :=
  let x1 := x.setFM 0 (nI 0)
  let x2 := s_X6_fail x1 (nI 1)
  x2
set_option maxRecDepth 100000 in
set_option maxHeartbeats 400000 in
theorem c_X6_state_bl (l : Launch) (E : gE) (x : St) (i : Nat) (b : Int32) (hi : i < 4) (hb : badL b) : Ct l yX6_state wsX6_state { frames := 1, cells := 0, slots := 0, locals := 21 } E [.ref (aM E), .int (nI i), .int b] x (fun v y => v = some (.int (nI 0)) ∧ y = s_X6_state_bl x i b) 0 0 := by
  refine Ct.of (cc := cX6_state) (nL := 3) (ret := (some .int)) (by decide) rfl (Nat.le_of_ble_eq_true rfl) ?_
  intro p e s m args below meth c h hr hk hname
  refine g_lvs (lv' := [(0, _), (1, _), (2, _)]) rfl ?_
  refine g_aload_n h 0 dX6_state_0 rfl rfl ?_
  refine g_iconst (v := nI 0) h dX6_state_1 (by decide) ?_
  refine g_put (C := RX6) (T := TX6) (N := 29) h 0 tyX6 (ws_M0 E _ _) rfl in_X6_state_X6 tyX6_ok nmX6 (by decide) lk_X6_state_83 rfl rfl rfl rfl rfl (Nat.le_of_ble_eq_true rfl) dX6_state_2 ?_
  refine g_iload_n h 1 dX6_state_5 rfl rfl ?_
  refine g_callS (As := [.int (nI i)]) h 1 (c_X6_isCache_t l E _ i (by omega)) rfl gX6_state_X6_isCache rfl rfl rfl rfl (by decide +kernel) ⟨Nat.le_of_ble_eq_true rfl, Nat.le_of_ble_eq_true rfl⟩ dX6_state_6 ⟨Nat.le_refl _, Nat.le_refl _⟩ (Nat.le_of_ble_eq_true rfl) ?_
  rintro _ _ ⟨rfl, hy⟩
  obtain rfl := hy.symm
  dsimp only [Option.toList, List.cons_append, List.nil_append]
  refine g_if_eq h 32 dX6_state_9 (by decide) (fun c_9 => absurd c_9 (by decide)) (fun c_9 => ?_)
  refine g_iload_n h 2 dX6_state_12 rfl rfl ?_
  refine g_callS (As := [.int _]) h 1 (c_X6_isLine_f l E _ b hb) rfl gX6_state_X6_isLine rfl rfl rfl rfl (by decide +kernel) ⟨Nat.le_of_ble_eq_true rfl, Nat.le_of_ble_eq_true rfl⟩ dX6_state_13 ⟨Nat.le_refl _, Nat.le_refl _⟩ (Nat.le_of_ble_eq_true rfl) ?_
  rintro _ _ ⟨rfl, hy⟩
  obtain rfl := hy.symm
  dsimp only [Option.toList, List.cons_append, List.nil_append]
  refine g_if_eq h 32 dX6_state_16 (by decide) (fun c_16 => ?_) (fun c_16 => absurd c_16 (by decide))
  refine g_aload_n h 0 dX6_state_32 rfl rfl ?_
  refine g_iconst (v := nI 1) h dX6_state_33 (by decide) ?_
  refine g_callV (As := [.int (nI 1)]) (C := RX6) h 1 (c_X6_fail l E _ 1) rfl gX6_state_X6_fail rfl rfl rfl rfl (by decide +kernel) ⟨Nat.le_of_ble_eq_true rfl, Nat.le_of_ble_eq_true rfl⟩ (wat_M E _) rfl rfl dX6_state_34 ⟨Nat.le_refl _, Nat.le_refl _⟩ (Nat.le_of_ble_eq_true rfl) ?_
  rintro _ _ ⟨rfl, hy⟩
  obtain rfl := hy.symm
  dsimp only [Option.toList, List.cons_append, List.nil_append]
  exact g_iret h hr hk dX6_state_37 (Nat.zero_le _) (Nat.zero_le _) ⟨rfl, Eq.symm rfl⟩
theorem in_X6_value_X6 : ∀ w ∈ wsX60, w ∈ wsX6_value := by decide +kernel
theorem lk_X6_value_83 : Cond.fieldLink RX6 83 "CacheDirectoryModel" "thrown" "I" ∈ wsX6_value := by decide +kernel
theorem lk_X6_value_16 : Cond.fieldLink RX6 16 "CacheDirectoryModel" "states" "[I" ∈ wsX6_value := by decide +kernel
theorem lk_X6_value_19 : Cond.fieldLink RX6 19 "CacheDirectoryModel" "values" "[I" ∈ wsX6_value := by decide +kernel
def r_X6_value_ok (x : St) (i : Nat) (j : Nat) : Int32 :=
  let x1 := x.setFM 0 (nI 0)
  if (x1.AM 2 (16 * i + j)) ≤ 0 then
    let x2 := s_X6_fail x1 (nI 2)
    nI 0
  else
    x1.AM 3 (16 * i + j)
def s_X6_value_ok (x : St) (i : Nat) (j : Nat) : St :=
  let x1 := x.setFM 0 (nI 0)
  if (x1.AM 2 (16 * i + j)) ≤ 0 then
    let x2 := s_X6_fail x1 (nI 2)
    x2
  else
    x1
set_option maxRecDepth 100000 in
set_option maxHeartbeats 400000 in
theorem c_X6_value_ok (l : Launch) (E : gE) (x : St) (i : Nat) (j : Nat) (hi : i < 4) (hj : j < 16) : Ct l yX6_value wsX6_value { frames := 1, cells := 0, slots := 0, locals := 21 } E [.ref (aM E), .int (nI i), .int (nI j)] x (fun v y => v = some (.int (r_X6_value_ok x i j)) ∧ y = s_X6_value_ok x i j) 0 0 := by
  refine Ct.of (cc := cX6_value) (nL := 3) (ret := (some .int)) (by decide) rfl (Nat.le_of_ble_eq_true rfl) ?_
  intro p e s m args below meth c h hr hk hname
  refine g_lvs (lv' := [(0, _), (1, _), (2, _)]) rfl ?_
  refine g_aload_n h 0 dX6_value_0 rfl rfl ?_
  refine g_iconst (v := nI 0) h dX6_value_1 (by decide) ?_
  refine g_put (C := RX6) (T := TX6) (N := 29) h 0 tyX6 (ws_M0 E _ _) rfl in_X6_value_X6 tyX6_ok nmX6 (by decide) lk_X6_value_83 rfl rfl rfl rfl rfl (Nat.le_of_ble_eq_true rfl) dX6_value_2 ?_
  refine g_iload_n h 1 dX6_value_5 rfl rfl ?_
  refine g_callS (As := [.int (nI i)]) h 1 (c_X6_isCache_t l E _ i (by omega)) rfl gX6_value_X6_isCache rfl rfl rfl rfl (by decide +kernel) ⟨Nat.le_of_ble_eq_true rfl, Nat.le_of_ble_eq_true rfl⟩ dX6_value_6 ⟨Nat.le_refl _, Nat.le_refl _⟩ (Nat.le_of_ble_eq_true rfl) ?_
  rintro _ _ ⟨rfl, hy⟩
  obtain rfl := hy.symm
  dsimp only [Option.toList, List.cons_append, List.nil_append]
  refine g_if_eq h 19 dX6_value_9 (by decide) (fun c_9 => absurd c_9 (by decide)) (fun c_9 => ?_)
  refine g_iload_n h 2 dX6_value_12 rfl rfl ?_
  refine g_callS (As := [.int (nI j)]) h 1 (c_X6_isLine_t l E _ j (by omega)) rfl gX6_value_X6_isLine rfl rfl rfl rfl (by decide +kernel) ⟨Nat.le_of_ble_eq_true rfl, Nat.le_of_ble_eq_true rfl⟩ dX6_value_13 ⟨Nat.le_refl _, Nat.le_refl _⟩ (Nat.le_of_ble_eq_true rfl) ?_
  rintro _ _ ⟨rfl, hy⟩
  obtain rfl := hy.symm
  dsimp only [Option.toList, List.cons_append, List.nil_append]
  refine g_if_ne h 25 dX6_value_16 (by decide) (fun c_16 => ?_) (fun c_16 => absurd c_16 (by decide))
  refine g_aload_n h 0 dX6_value_25 rfl rfl ?_
  refine g_get (C := RX6) (T := TX6) (N := 29) h 3 (wat_M E _) rfl in_X6_value_X6 (by decide) lk_X6_value_16 rfl rfl dX6_value_26 ?_
  refine g_iload_n h 1 dX6_value_29 rfl rfl ?_
  refine g_iload_n h 2 dX6_value_30 rfl rfl ?_
  refine g_callS (As := [.int (nI i), .int (nI j)]) h 2 (c_X6_at l E _ i j (by omega) (by omega)) rfl gX6_value_X6_at rfl rfl rfl rfl (by decide +kernel) ⟨Nat.le_of_ble_eq_true rfl, Nat.le_of_ble_eq_true rfl⟩ dX6_value_31 ⟨Nat.le_refl _, Nat.le_refl _⟩ (Nat.le_of_ble_eq_true rfl) ?_
  rintro _ _ ⟨rfl, hy⟩
  obtain rfl := hy.symm
  dsimp only [Option.toList, List.cons_append, List.nil_append]
  refine g_iald (n := 64) h (wat_Y E _ (i := 2) (by decide)) (by omega) (by decide) dX6_value_34 ?_
  refine g_if_le h 51 dX6_value_35 (by decide) (fun c_35 => ?_) (fun c_35 => ?_)
  · skip
    refine g_aload_n h 0 dX6_value_51 rfl rfl ?_
    refine g_iconst (v := nI 2) h dX6_value_52 (by decide) ?_
    refine g_callV (As := [.int (nI 2)]) (C := RX6) h 1 (c_X6_fail l E _ 2) rfl gX6_value_X6_fail rfl rfl rfl rfl (by decide +kernel) ⟨Nat.le_of_ble_eq_true rfl, Nat.le_of_ble_eq_true rfl⟩ (wat_M E _) rfl rfl dX6_value_53 ⟨Nat.le_refl _, Nat.le_refl _⟩ (Nat.le_of_ble_eq_true rfl) ?_
    rintro _ _ ⟨rfl, hy⟩
    obtain rfl := hy.symm
    dsimp only [Option.toList, List.cons_append, List.nil_append]
    exact g_iret h hr hk dX6_value_56 (Nat.zero_le _) (Nat.zero_le _) ⟨congrArg (fun z => some (Value.int z)) (Eq.symm (if_pos c_35)), Eq.symm (if_pos c_35)⟩
  · skip
    refine g_aload_n h 0 dX6_value_38 rfl rfl ?_
    refine g_get (C := RX6) (T := TX6) (N := 29) h 4 (wat_M E _) rfl in_X6_value_X6 (by decide) lk_X6_value_19 rfl rfl dX6_value_39 ?_
    refine g_iload_n h 1 dX6_value_42 rfl rfl ?_
    refine g_iload_n h 2 dX6_value_43 rfl rfl ?_
    refine g_callS (As := [.int (nI i), .int (nI j)]) h 2 (c_X6_at l E _ i j (by omega) (by omega)) rfl gX6_value_X6_at rfl rfl rfl rfl (by decide +kernel) ⟨Nat.le_of_ble_eq_true rfl, Nat.le_of_ble_eq_true rfl⟩ dX6_value_44 ⟨Nat.le_refl _, Nat.le_refl _⟩ (Nat.le_of_ble_eq_true rfl) ?_
    rintro _ _ ⟨rfl, hy⟩
    obtain rfl := hy.symm
    dsimp only [Option.toList, List.cons_append, List.nil_append]
    refine g_iald (n := 64) h (wat_Y E _ (i := 3) (by decide)) (by omega) (by decide) dX6_value_47 ?_
    refine g_goto h 56 dX6_value_48 (by decide) ?_
    exact g_iret h hr hk dX6_value_56 (Nat.zero_le _) (Nat.zero_le _) ⟨congrArg (fun z => some (Value.int z)) (Eq.symm (if_neg c_35)), Eq.symm (if_neg c_35)⟩
def s_X6_value_bc (x : St) (a : Int32) (b : Int32) : St :=
  let x1 := x.setFM 0 (nI 0)
  let x2 := s_X6_fail x1 (nI 1)
  x2
set_option maxRecDepth 100000 in
set_option maxHeartbeats 400000 in
theorem c_X6_value_bc (l : Launch) (E : gE) (x : St) (a : Int32) (b : Int32) (ha : badC a) : Ct l yX6_value wsX6_value { frames := 1, cells := 0, slots := 0, locals := 21 } E [.ref (aM E), .int a, .int b] x (fun v y => v = some (.int (nI 0)) ∧ y = s_X6_value_bc x a b) 0 0 := by
  refine Ct.of (cc := cX6_value) (nL := 3) (ret := (some .int)) (by decide) rfl (Nat.le_of_ble_eq_true rfl) ?_
  intro p e s m args below meth c h hr hk hname
  refine g_lvs (lv' := [(0, _), (1, _), (2, _)]) rfl ?_
  refine g_aload_n h 0 dX6_value_0 rfl rfl ?_
  refine g_iconst (v := nI 0) h dX6_value_1 (by decide) ?_
  refine g_put (C := RX6) (T := TX6) (N := 29) h 0 tyX6 (ws_M0 E _ _) rfl in_X6_value_X6 tyX6_ok nmX6 (by decide) lk_X6_value_83 rfl rfl rfl rfl rfl (Nat.le_of_ble_eq_true rfl) dX6_value_2 ?_
  refine g_iload_n h 1 dX6_value_5 rfl rfl ?_
  refine g_callS (As := [.int _]) h 1 (c_X6_isCache_f l E _ a ha) rfl gX6_value_X6_isCache rfl rfl rfl rfl (by decide +kernel) ⟨Nat.le_of_ble_eq_true rfl, Nat.le_of_ble_eq_true rfl⟩ dX6_value_6 ⟨Nat.le_refl _, Nat.le_refl _⟩ (Nat.le_of_ble_eq_true rfl) ?_
  rintro _ _ ⟨rfl, hy⟩
  obtain rfl := hy.symm
  dsimp only [Option.toList, List.cons_append, List.nil_append]
  refine g_if_eq h 19 dX6_value_9 (by decide) (fun c_9 => ?_) (fun c_9 => absurd c_9 (by decide))
  refine g_aload_n h 0 dX6_value_19 rfl rfl ?_
  refine g_iconst (v := nI 1) h dX6_value_20 (by decide) ?_
  refine g_callV (As := [.int (nI 1)]) (C := RX6) h 1 (c_X6_fail l E _ 1) rfl gX6_value_X6_fail rfl rfl rfl rfl (by decide +kernel) ⟨Nat.le_of_ble_eq_true rfl, Nat.le_of_ble_eq_true rfl⟩ (wat_M E _) rfl rfl dX6_value_21 ⟨Nat.le_refl _, Nat.le_refl _⟩ (Nat.le_of_ble_eq_true rfl) ?_
  rintro _ _ ⟨rfl, hy⟩
  obtain rfl := hy.symm
  dsimp only [Option.toList, List.cons_append, List.nil_append]
  exact g_iret h hr hk dX6_value_24 (Nat.zero_le _) (Nat.zero_le _) ⟨rfl, Eq.symm rfl⟩
def s_X6_value_bl (x : St) (i : Nat) (b : Int32) : St :=
  let x1 := x.setFM 0 (nI 0)
  let x2 := s_X6_fail x1 (nI 1)
  x2
set_option maxRecDepth 100000 in
set_option maxHeartbeats 400000 in
theorem c_X6_value_bl (l : Launch) (E : gE) (x : St) (i : Nat) (b : Int32) (hi : i < 4) (hb : badL b) : Ct l yX6_value wsX6_value { frames := 1, cells := 0, slots := 0, locals := 21 } E [.ref (aM E), .int (nI i), .int b] x (fun v y => v = some (.int (nI 0)) ∧ y = s_X6_value_bl x i b) 0 0 := by
  refine Ct.of (cc := cX6_value) (nL := 3) (ret := (some .int)) (by decide) rfl (Nat.le_of_ble_eq_true rfl) ?_
  intro p e s m args below meth c h hr hk hname
  refine g_lvs (lv' := [(0, _), (1, _), (2, _)]) rfl ?_
  refine g_aload_n h 0 dX6_value_0 rfl rfl ?_
  refine g_iconst (v := nI 0) h dX6_value_1 (by decide) ?_
  refine g_put (C := RX6) (T := TX6) (N := 29) h 0 tyX6 (ws_M0 E _ _) rfl in_X6_value_X6 tyX6_ok nmX6 (by decide) lk_X6_value_83 rfl rfl rfl rfl rfl (Nat.le_of_ble_eq_true rfl) dX6_value_2 ?_
  refine g_iload_n h 1 dX6_value_5 rfl rfl ?_
  refine g_callS (As := [.int (nI i)]) h 1 (c_X6_isCache_t l E _ i (by omega)) rfl gX6_value_X6_isCache rfl rfl rfl rfl (by decide +kernel) ⟨Nat.le_of_ble_eq_true rfl, Nat.le_of_ble_eq_true rfl⟩ dX6_value_6 ⟨Nat.le_refl _, Nat.le_refl _⟩ (Nat.le_of_ble_eq_true rfl) ?_
  rintro _ _ ⟨rfl, hy⟩
  obtain rfl := hy.symm
  dsimp only [Option.toList, List.cons_append, List.nil_append]
  refine g_if_eq h 19 dX6_value_9 (by decide) (fun c_9 => absurd c_9 (by decide)) (fun c_9 => ?_)
  refine g_iload_n h 2 dX6_value_12 rfl rfl ?_
  refine g_callS (As := [.int _]) h 1 (c_X6_isLine_f l E _ b hb) rfl gX6_value_X6_isLine rfl rfl rfl rfl (by decide +kernel) ⟨Nat.le_of_ble_eq_true rfl, Nat.le_of_ble_eq_true rfl⟩ dX6_value_13 ⟨Nat.le_refl _, Nat.le_refl _⟩ (Nat.le_of_ble_eq_true rfl) ?_
  rintro _ _ ⟨rfl, hy⟩
  obtain rfl := hy.symm
  dsimp only [Option.toList, List.cons_append, List.nil_append]
  refine g_if_ne h 25 dX6_value_16 (by decide) (fun c_16 => absurd c_16 (by decide)) (fun c_16 => ?_)
  refine g_aload_n h 0 dX6_value_19 rfl rfl ?_
  refine g_iconst (v := nI 1) h dX6_value_20 (by decide) ?_
  refine g_callV (As := [.int (nI 1)]) (C := RX6) h 1 (c_X6_fail l E _ 1) rfl gX6_value_X6_fail rfl rfl rfl rfl (by decide +kernel) ⟨Nat.le_of_ble_eq_true rfl, Nat.le_of_ble_eq_true rfl⟩ (wat_M E _) rfl rfl dX6_value_21 ⟨Nat.le_refl _, Nat.le_refl _⟩ (Nat.le_of_ble_eq_true rfl) ?_
  rintro _ _ ⟨rfl, hy⟩
  obtain rfl := hy.symm
  dsimp only [Option.toList, List.cons_append, List.nil_append]
  exact g_iret h hr hk dX6_value_24 (Nat.zero_le _) (Nat.zero_le _) ⟨rfl, Eq.symm rfl⟩
theorem in_X6_victimValue_X6 : ∀ w ∈ wsX60, w ∈ wsX6_victimValue := by decide +kernel
theorem lk_X6_victimValue_83 : Cond.fieldLink RX6 83 "CacheDirectoryModel" "thrown" "I" ∈ wsX6_victimValue := by decide +kernel
theorem lk_X6_victimValue_25 : Cond.fieldLink RX6 25 "CacheDirectoryModel" "victims" "[I" ∈ wsX6_victimValue := by decide +kernel
def r_X6_victimValue_ok (x : St) (i : Nat) (j : Nat) : Int32 :=
  let x1 := x.setFM 0 (nI 0)
  x1.AM 5 (16 * i + j)
def s_X6_victimValue_ok (x : St) (i : Nat) (j : Nat) : St :=
  let x1 := x.setFM 0 (nI 0)
  x1
set_option maxRecDepth 100000 in
set_option maxHeartbeats 400000 in
theorem c_X6_victimValue_ok (l : Launch) (E : gE) (x : St) (i : Nat) (j : Nat) (hi : i < 4) (hj : j < 16) : Ct l yX6_victimValue wsX6_victimValue { frames := 1, cells := 0, slots := 0, locals := 21 } E [.ref (aM E), .int (nI i), .int (nI j)] x (fun v y => v = some (.int (r_X6_victimValue_ok x i j)) ∧ y = s_X6_victimValue_ok x i j) 0 0 := by
  refine Ct.of (cc := cX6_victimValue) (nL := 3) (ret := (some .int)) (by decide) rfl (Nat.le_of_ble_eq_true rfl) ?_
  intro p e s m args below meth c h hr hk hname
  refine g_lvs (lv' := [(0, _), (1, _), (2, _)]) rfl ?_
  refine g_aload_n h 0 dX6_victimValue_0 rfl rfl ?_
  refine g_iconst (v := nI 0) h dX6_victimValue_1 (by decide) ?_
  refine g_put (C := RX6) (T := TX6) (N := 29) h 0 tyX6 (ws_M0 E _ _) rfl in_X6_victimValue_X6 tyX6_ok nmX6 (by decide) lk_X6_victimValue_83 rfl rfl rfl rfl rfl (Nat.le_of_ble_eq_true rfl) dX6_victimValue_2 ?_
  refine g_iload_n h 1 dX6_victimValue_5 rfl rfl ?_
  refine g_callS (As := [.int (nI i)]) h 1 (c_X6_isCache_t l E _ i (by omega)) rfl gX6_victimValue_X6_isCache rfl rfl rfl rfl (by decide +kernel) ⟨Nat.le_of_ble_eq_true rfl, Nat.le_of_ble_eq_true rfl⟩ dX6_victimValue_6 ⟨Nat.le_refl _, Nat.le_refl _⟩ (Nat.le_of_ble_eq_true rfl) ?_
  rintro _ _ ⟨rfl, hy⟩
  obtain rfl := hy.symm
  dsimp only [Option.toList, List.cons_append, List.nil_append]
  refine g_if_eq h 32 dX6_victimValue_9 (by decide) (fun c_9 => absurd c_9 (by decide)) (fun c_9 => ?_)
  refine g_iload_n h 2 dX6_victimValue_12 rfl rfl ?_
  refine g_callS (As := [.int (nI j)]) h 1 (c_X6_isLine_t l E _ j (by omega)) rfl gX6_victimValue_X6_isLine rfl rfl rfl rfl (by decide +kernel) ⟨Nat.le_of_ble_eq_true rfl, Nat.le_of_ble_eq_true rfl⟩ dX6_victimValue_13 ⟨Nat.le_refl _, Nat.le_refl _⟩ (Nat.le_of_ble_eq_true rfl) ?_
  rintro _ _ ⟨rfl, hy⟩
  obtain rfl := hy.symm
  dsimp only [Option.toList, List.cons_append, List.nil_append]
  refine g_if_eq h 32 dX6_victimValue_16 (by decide) (fun c_16 => absurd c_16 (by decide)) (fun c_16 => ?_)
  refine g_aload_n h 0 dX6_victimValue_19 rfl rfl ?_
  refine g_get (C := RX6) (T := TX6) (N := 29) h 6 (wat_M E _) rfl in_X6_victimValue_X6 (by decide) lk_X6_victimValue_25 rfl rfl dX6_victimValue_20 ?_
  refine g_iload_n h 1 dX6_victimValue_23 rfl rfl ?_
  refine g_iload_n h 2 dX6_victimValue_24 rfl rfl ?_
  refine g_callS (As := [.int (nI i), .int (nI j)]) h 2 (c_X6_at l E _ i j (by omega) (by omega)) rfl gX6_victimValue_X6_at rfl rfl rfl rfl (by decide +kernel) ⟨Nat.le_of_ble_eq_true rfl, Nat.le_of_ble_eq_true rfl⟩ dX6_victimValue_25 ⟨Nat.le_refl _, Nat.le_refl _⟩ (Nat.le_of_ble_eq_true rfl) ?_
  rintro _ _ ⟨rfl, hy⟩
  obtain rfl := hy.symm
  dsimp only [Option.toList, List.cons_append, List.nil_append]
  refine g_iald (n := 64) h (wat_Y E _ (i := 5) (by decide)) (by omega) (by decide) dX6_victimValue_28 ?_
  refine g_goto h 37 dX6_victimValue_29 (by decide) ?_
  exact g_iret h hr hk dX6_victimValue_37 (Nat.zero_le _) (Nat.zero_le _) ⟨congrArg (fun z => some (Value.int z)) (Eq.symm rfl), Eq.symm rfl⟩
def s_X6_victimValue_bc (x : St) (a : Int32) (b : Int32) : St :=
  let x1 := x.setFM 0 (nI 0)
  let x2 := s_X6_fail x1 (nI 1)
  x2
set_option maxRecDepth 100000 in
set_option maxHeartbeats 400000 in
theorem c_X6_victimValue_bc (l : Launch) (E : gE) (x : St) (a : Int32) (b : Int32) (ha : badC a) : Ct l yX6_victimValue wsX6_victimValue { frames := 1, cells := 0, slots := 0, locals := 21 } E [.ref (aM E), .int a, .int b] x (fun v y => v = some (.int (nI 0)) ∧ y = s_X6_victimValue_bc x a b) 0 0 := by
  refine Ct.of (cc := cX6_victimValue) (nL := 3) (ret := (some .int)) (by decide) rfl (Nat.le_of_ble_eq_true rfl) ?_
  intro p e s m args below meth c h hr hk hname
  refine g_lvs (lv' := [(0, _), (1, _), (2, _)]) rfl ?_
  refine g_aload_n h 0 dX6_victimValue_0 rfl rfl ?_
  refine g_iconst (v := nI 0) h dX6_victimValue_1 (by decide) ?_
  refine g_put (C := RX6) (T := TX6) (N := 29) h 0 tyX6 (ws_M0 E _ _) rfl in_X6_victimValue_X6 tyX6_ok nmX6 (by decide) lk_X6_victimValue_83 rfl rfl rfl rfl rfl (Nat.le_of_ble_eq_true rfl) dX6_victimValue_2 ?_
  refine g_iload_n h 1 dX6_victimValue_5 rfl rfl ?_
  refine g_callS (As := [.int _]) h 1 (c_X6_isCache_f l E _ a ha) rfl gX6_victimValue_X6_isCache rfl rfl rfl rfl (by decide +kernel) ⟨Nat.le_of_ble_eq_true rfl, Nat.le_of_ble_eq_true rfl⟩ dX6_victimValue_6 ⟨Nat.le_refl _, Nat.le_refl _⟩ (Nat.le_of_ble_eq_true rfl) ?_
  rintro _ _ ⟨rfl, hy⟩
  obtain rfl := hy.symm
  dsimp only [Option.toList, List.cons_append, List.nil_append]
  refine g_if_eq h 32 dX6_victimValue_9 (by decide) (fun c_9 => ?_) (fun c_9 => absurd c_9 (by decide))
  refine g_aload_n h 0 dX6_victimValue_32 rfl rfl ?_
  refine g_iconst (v := nI 1) h dX6_victimValue_33 (by decide) ?_
  refine g_callV (As := [.int (nI 1)]) (C := RX6) h 1 (c_X6_fail l E _ 1) rfl gX6_victimValue_X6_fail rfl rfl rfl rfl (by decide +kernel) ⟨Nat.le_of_ble_eq_true rfl, Nat.le_of_ble_eq_true rfl⟩ (wat_M E _) rfl rfl dX6_victimValue_34 ⟨Nat.le_refl _, Nat.le_refl _⟩ (Nat.le_of_ble_eq_true rfl) ?_
  rintro _ _ ⟨rfl, hy⟩
  obtain rfl := hy.symm
  dsimp only [Option.toList, List.cons_append, List.nil_append]
  exact g_iret h hr hk dX6_victimValue_37 (Nat.zero_le _) (Nat.zero_le _) ⟨rfl, Eq.symm rfl⟩
def s_X6_victimValue_bl (x : St) (i : Nat) (b : Int32) : St :=
  let x1 := x.setFM 0 (nI 0)
  let x2 := s_X6_fail x1 (nI 1)
  x2
set_option maxRecDepth 100000 in
set_option maxHeartbeats 400000 in
theorem c_X6_victimValue_bl (l : Launch) (E : gE) (x : St) (i : Nat) (b : Int32) (hi : i < 4) (hb : badL b) : Ct l yX6_victimValue wsX6_victimValue { frames := 1, cells := 0, slots := 0, locals := 21 } E [.ref (aM E), .int (nI i), .int b] x (fun v y => v = some (.int (nI 0)) ∧ y = s_X6_victimValue_bl x i b) 0 0 := by
  refine Ct.of (cc := cX6_victimValue) (nL := 3) (ret := (some .int)) (by decide) rfl (Nat.le_of_ble_eq_true rfl) ?_
  intro p e s m args below meth c h hr hk hname
  refine g_lvs (lv' := [(0, _), (1, _), (2, _)]) rfl ?_
  refine g_aload_n h 0 dX6_victimValue_0 rfl rfl ?_
  refine g_iconst (v := nI 0) h dX6_victimValue_1 (by decide) ?_
  refine g_put (C := RX6) (T := TX6) (N := 29) h 0 tyX6 (ws_M0 E _ _) rfl in_X6_victimValue_X6 tyX6_ok nmX6 (by decide) lk_X6_victimValue_83 rfl rfl rfl rfl rfl (Nat.le_of_ble_eq_true rfl) dX6_victimValue_2 ?_
  refine g_iload_n h 1 dX6_victimValue_5 rfl rfl ?_
  refine g_callS (As := [.int (nI i)]) h 1 (c_X6_isCache_t l E _ i (by omega)) rfl gX6_victimValue_X6_isCache rfl rfl rfl rfl (by decide +kernel) ⟨Nat.le_of_ble_eq_true rfl, Nat.le_of_ble_eq_true rfl⟩ dX6_victimValue_6 ⟨Nat.le_refl _, Nat.le_refl _⟩ (Nat.le_of_ble_eq_true rfl) ?_
  rintro _ _ ⟨rfl, hy⟩
  obtain rfl := hy.symm
  dsimp only [Option.toList, List.cons_append, List.nil_append]
  refine g_if_eq h 32 dX6_victimValue_9 (by decide) (fun c_9 => absurd c_9 (by decide)) (fun c_9 => ?_)
  refine g_iload_n h 2 dX6_victimValue_12 rfl rfl ?_
  refine g_callS (As := [.int _]) h 1 (c_X6_isLine_f l E _ b hb) rfl gX6_victimValue_X6_isLine rfl rfl rfl rfl (by decide +kernel) ⟨Nat.le_of_ble_eq_true rfl, Nat.le_of_ble_eq_true rfl⟩ dX6_victimValue_13 ⟨Nat.le_refl _, Nat.le_refl _⟩ (Nat.le_of_ble_eq_true rfl) ?_
  rintro _ _ ⟨rfl, hy⟩
  obtain rfl := hy.symm
  dsimp only [Option.toList, List.cons_append, List.nil_append]
  refine g_if_eq h 32 dX6_victimValue_16 (by decide) (fun c_16 => ?_) (fun c_16 => absurd c_16 (by decide))
  refine g_aload_n h 0 dX6_victimValue_32 rfl rfl ?_
  refine g_iconst (v := nI 1) h dX6_victimValue_33 (by decide) ?_
  refine g_callV (As := [.int (nI 1)]) (C := RX6) h 1 (c_X6_fail l E _ 1) rfl gX6_victimValue_X6_fail rfl rfl rfl rfl (by decide +kernel) ⟨Nat.le_of_ble_eq_true rfl, Nat.le_of_ble_eq_true rfl⟩ (wat_M E _) rfl rfl dX6_victimValue_34 ⟨Nat.le_refl _, Nat.le_refl _⟩ (Nat.le_of_ble_eq_true rfl) ?_
  rintro _ _ ⟨rfl, hy⟩
  obtain rfl := hy.symm
  dsimp only [Option.toList, List.cons_append, List.nil_append]
  exact g_iret h hr hk dX6_victimValue_37 (Nat.zero_le _) (Nat.zero_le _) ⟨rfl, Eq.symm rfl⟩
theorem in_X6_openLine_X6 : ∀ w ∈ wsX60, w ∈ wsX6_openLine := by decide +kernel
theorem lk_X6_openLine_83 : Cond.fieldLink RX6 83 "CacheDirectoryModel" "thrown" "I" ∈ wsX6_openLine := by decide +kernel
theorem lk_X6_openLine_37 : Cond.fieldLink RX6 37 "CacheDirectoryModel" "openLines" "[I" ∈ wsX6_openLine := by decide +kernel
def r_X6_openLine_ok (x : St) (i : Nat) : Int32 :=
  let x1 := x.setFM 0 (nI 0)
  x1.AM 9 i
def s_X6_openLine_ok (x : St) (i : Nat) : St :=
  let x1 := x.setFM 0 (nI 0)
  x1
set_option maxRecDepth 100000 in
set_option maxHeartbeats 400000 in
theorem c_X6_openLine_ok (l : Launch) (E : gE) (x : St) (i : Nat) (hi : i < 4) : Ct l yX6_openLine wsX6_openLine { frames := 1, cells := 0, slots := 0, locals := 20 } E [.ref (aM E), .int (nI i)] x (fun v y => v = some (.int (r_X6_openLine_ok x i)) ∧ y = s_X6_openLine_ok x i) 0 0 := by
  refine Ct.of (cc := cX6_openLine) (nL := 2) (ret := (some .int)) (by decide) rfl (Nat.le_of_ble_eq_true rfl) ?_
  intro p e s m args below meth c h hr hk hname
  refine g_lvs (lv' := [(0, _), (1, _)]) rfl ?_
  refine g_aload_n h 0 dX6_openLine_0 rfl rfl ?_
  refine g_iconst (v := nI 0) h dX6_openLine_1 (by decide) ?_
  refine g_put (C := RX6) (T := TX6) (N := 29) h 0 tyX6 (ws_M0 E _ _) rfl in_X6_openLine_X6 tyX6_ok nmX6 (by decide) lk_X6_openLine_83 rfl rfl rfl rfl rfl (Nat.le_of_ble_eq_true rfl) dX6_openLine_2 ?_
  refine g_iload_n h 1 dX6_openLine_5 rfl rfl ?_
  refine g_callS (As := [.int (nI i)]) h 1 (c_X6_isCache_t l E _ i (by omega)) rfl gX6_openLine_X6_isCache rfl rfl rfl rfl (by decide +kernel) ⟨Nat.le_of_ble_eq_true rfl, Nat.le_of_ble_eq_true rfl⟩ dX6_openLine_6 ⟨Nat.le_refl _, Nat.le_refl _⟩ (Nat.le_of_ble_eq_true rfl) ?_
  rintro _ _ ⟨rfl, hy⟩
  obtain rfl := hy.symm
  dsimp only [Option.toList, List.cons_append, List.nil_append]
  refine g_if_eq h 21 dX6_openLine_9 (by decide) (fun c_9 => absurd c_9 (by decide)) (fun c_9 => ?_)
  refine g_aload_n h 0 dX6_openLine_12 rfl rfl ?_
  refine g_get (C := RX6) (T := TX6) (N := 29) h 11 (wat_M E _) rfl in_X6_openLine_X6 (by decide) lk_X6_openLine_37 rfl rfl dX6_openLine_13 ?_
  refine g_iload_n h 1 dX6_openLine_16 rfl rfl ?_
  refine g_iald (n := 4) h (wat_Y E _ (i := 9) (by decide)) (by omega) (by decide) dX6_openLine_17 ?_
  refine g_goto h 26 dX6_openLine_18 (by decide) ?_
  exact g_iret h hr hk dX6_openLine_26 (Nat.zero_le _) (Nat.zero_le _) ⟨congrArg (fun z => some (Value.int z)) (Eq.symm rfl), Eq.symm rfl⟩
def s_X6_openLine_bc (x : St) (a : Int32) : St :=
  let x1 := x.setFM 0 (nI 0)
  let x2 := s_X6_fail x1 (nI 1)
  x2
set_option maxRecDepth 100000 in
set_option maxHeartbeats 400000 in
theorem c_X6_openLine_bc (l : Launch) (E : gE) (x : St) (a : Int32) (ha : badC a) : Ct l yX6_openLine wsX6_openLine { frames := 1, cells := 0, slots := 0, locals := 21 } E [.ref (aM E), .int a] x (fun v y => v = some (.int (nI 0)) ∧ y = s_X6_openLine_bc x a) 0 0 := by
  refine Ct.of (cc := cX6_openLine) (nL := 2) (ret := (some .int)) (by decide) rfl (Nat.le_of_ble_eq_true rfl) ?_
  intro p e s m args below meth c h hr hk hname
  refine g_lvs (lv' := [(0, _), (1, _)]) rfl ?_
  refine g_aload_n h 0 dX6_openLine_0 rfl rfl ?_
  refine g_iconst (v := nI 0) h dX6_openLine_1 (by decide) ?_
  refine g_put (C := RX6) (T := TX6) (N := 29) h 0 tyX6 (ws_M0 E _ _) rfl in_X6_openLine_X6 tyX6_ok nmX6 (by decide) lk_X6_openLine_83 rfl rfl rfl rfl rfl (Nat.le_of_ble_eq_true rfl) dX6_openLine_2 ?_
  refine g_iload_n h 1 dX6_openLine_5 rfl rfl ?_
  refine g_callS (As := [.int _]) h 1 (c_X6_isCache_f l E _ a ha) rfl gX6_openLine_X6_isCache rfl rfl rfl rfl (by decide +kernel) ⟨Nat.le_of_ble_eq_true rfl, Nat.le_of_ble_eq_true rfl⟩ dX6_openLine_6 ⟨Nat.le_refl _, Nat.le_refl _⟩ (Nat.le_of_ble_eq_true rfl) ?_
  rintro _ _ ⟨rfl, hy⟩
  obtain rfl := hy.symm
  dsimp only [Option.toList, List.cons_append, List.nil_append]
  refine g_if_eq h 21 dX6_openLine_9 (by decide) (fun c_9 => ?_) (fun c_9 => absurd c_9 (by decide))
  refine g_aload_n h 0 dX6_openLine_21 rfl rfl ?_
  refine g_iconst (v := nI 1) h dX6_openLine_22 (by decide) ?_
  refine g_callV (As := [.int (nI 1)]) (C := RX6) h 1 (c_X6_fail l E _ 1) rfl gX6_openLine_X6_fail rfl rfl rfl rfl (by decide +kernel) ⟨Nat.le_of_ble_eq_true rfl, Nat.le_of_ble_eq_true rfl⟩ (wat_M E _) rfl rfl dX6_openLine_23 ⟨Nat.le_refl _, Nat.le_refl _⟩ (Nat.le_of_ble_eq_true rfl) ?_
  rintro _ _ ⟨rfl, hy⟩
  obtain rfl := hy.symm
  dsimp only [Option.toList, List.cons_append, List.nil_append]
  exact g_iret h hr hk dX6_openLine_26 (Nat.zero_le _) (Nat.zero_le _) ⟨rfl, Eq.symm rfl⟩
theorem in_X6_latestRead_X6 : ∀ w ∈ wsX60, w ∈ wsX6_latestRead := by decide +kernel
theorem lk_X6_latestRead_83 : Cond.fieldLink RX6 83 "CacheDirectoryModel" "thrown" "I" ∈ wsX6_latestRead := by decide +kernel
theorem lk_X6_latestRead_34 : Cond.fieldLink RX6 34 "CacheDirectoryModel" "latest" "[I" ∈ wsX6_latestRead := by decide +kernel
def r_X6_latestRead_ok (x : St) (i : Nat) : Int32 :=
  let x1 := x.setFM 0 (nI 0)
  x1.AM 8 i
def s_X6_latestRead_ok (x : St) (i : Nat) : St :=
  let x1 := x.setFM 0 (nI 0)
  x1
set_option maxRecDepth 100000 in
set_option maxHeartbeats 400000 in
theorem c_X6_latestRead_ok (l : Launch) (E : gE) (x : St) (i : Nat) (hi : i < 4) : Ct l yX6_latestRead wsX6_latestRead { frames := 1, cells := 0, slots := 0, locals := 20 } E [.ref (aM E), .int (nI i)] x (fun v y => v = some (.int (r_X6_latestRead_ok x i)) ∧ y = s_X6_latestRead_ok x i) 0 0 := by
  refine Ct.of (cc := cX6_latestRead) (nL := 2) (ret := (some .int)) (by decide) rfl (Nat.le_of_ble_eq_true rfl) ?_
  intro p e s m args below meth c h hr hk hname
  refine g_lvs (lv' := [(0, _), (1, _)]) rfl ?_
  refine g_aload_n h 0 dX6_latestRead_0 rfl rfl ?_
  refine g_iconst (v := nI 0) h dX6_latestRead_1 (by decide) ?_
  refine g_put (C := RX6) (T := TX6) (N := 29) h 0 tyX6 (ws_M0 E _ _) rfl in_X6_latestRead_X6 tyX6_ok nmX6 (by decide) lk_X6_latestRead_83 rfl rfl rfl rfl rfl (Nat.le_of_ble_eq_true rfl) dX6_latestRead_2 ?_
  refine g_iload_n h 1 dX6_latestRead_5 rfl rfl ?_
  refine g_callS (As := [.int (nI i)]) h 1 (c_X6_isCache_t l E _ i (by omega)) rfl gX6_latestRead_X6_isCache rfl rfl rfl rfl (by decide +kernel) ⟨Nat.le_of_ble_eq_true rfl, Nat.le_of_ble_eq_true rfl⟩ dX6_latestRead_6 ⟨Nat.le_refl _, Nat.le_refl _⟩ (Nat.le_of_ble_eq_true rfl) ?_
  rintro _ _ ⟨rfl, hy⟩
  obtain rfl := hy.symm
  dsimp only [Option.toList, List.cons_append, List.nil_append]
  refine g_if_eq h 21 dX6_latestRead_9 (by decide) (fun c_9 => absurd c_9 (by decide)) (fun c_9 => ?_)
  refine g_aload_n h 0 dX6_latestRead_12 rfl rfl ?_
  refine g_get (C := RX6) (T := TX6) (N := 29) h 10 (wat_M E _) rfl in_X6_latestRead_X6 (by decide) lk_X6_latestRead_34 rfl rfl dX6_latestRead_13 ?_
  refine g_iload_n h 1 dX6_latestRead_16 rfl rfl ?_
  refine g_iald (n := 4) h (wat_Y E _ (i := 8) (by decide)) (by omega) (by decide) dX6_latestRead_17 ?_
  refine g_goto h 26 dX6_latestRead_18 (by decide) ?_
  exact g_iret h hr hk dX6_latestRead_26 (Nat.zero_le _) (Nat.zero_le _) ⟨congrArg (fun z => some (Value.int z)) (Eq.symm rfl), Eq.symm rfl⟩
def s_X6_latestRead_bc (x : St) (a : Int32) : St :=
  let x1 := x.setFM 0 (nI 0)
  let x2 := s_X6_fail x1 (nI 1)
  x2
set_option maxRecDepth 100000 in
set_option maxHeartbeats 400000 in
theorem c_X6_latestRead_bc (l : Launch) (E : gE) (x : St) (a : Int32) (ha : badC a) : Ct l yX6_latestRead wsX6_latestRead { frames := 1, cells := 0, slots := 0, locals := 21 } E [.ref (aM E), .int a] x (fun v y => v = some (.int (nI 0)) ∧ y = s_X6_latestRead_bc x a) 0 0 := by
  refine Ct.of (cc := cX6_latestRead) (nL := 2) (ret := (some .int)) (by decide) rfl (Nat.le_of_ble_eq_true rfl) ?_
  intro p e s m args below meth c h hr hk hname
  refine g_lvs (lv' := [(0, _), (1, _)]) rfl ?_
  refine g_aload_n h 0 dX6_latestRead_0 rfl rfl ?_
  refine g_iconst (v := nI 0) h dX6_latestRead_1 (by decide) ?_
  refine g_put (C := RX6) (T := TX6) (N := 29) h 0 tyX6 (ws_M0 E _ _) rfl in_X6_latestRead_X6 tyX6_ok nmX6 (by decide) lk_X6_latestRead_83 rfl rfl rfl rfl rfl (Nat.le_of_ble_eq_true rfl) dX6_latestRead_2 ?_
  refine g_iload_n h 1 dX6_latestRead_5 rfl rfl ?_
  refine g_callS (As := [.int _]) h 1 (c_X6_isCache_f l E _ a ha) rfl gX6_latestRead_X6_isCache rfl rfl rfl rfl (by decide +kernel) ⟨Nat.le_of_ble_eq_true rfl, Nat.le_of_ble_eq_true rfl⟩ dX6_latestRead_6 ⟨Nat.le_refl _, Nat.le_refl _⟩ (Nat.le_of_ble_eq_true rfl) ?_
  rintro _ _ ⟨rfl, hy⟩
  obtain rfl := hy.symm
  dsimp only [Option.toList, List.cons_append, List.nil_append]
  refine g_if_eq h 21 dX6_latestRead_9 (by decide) (fun c_9 => ?_) (fun c_9 => absurd c_9 (by decide))
  refine g_aload_n h 0 dX6_latestRead_21 rfl rfl ?_
  refine g_iconst (v := nI 1) h dX6_latestRead_22 (by decide) ?_
  refine g_callV (As := [.int (nI 1)]) (C := RX6) h 1 (c_X6_fail l E _ 1) rfl gX6_latestRead_X6_fail rfl rfl rfl rfl (by decide +kernel) ⟨Nat.le_of_ble_eq_true rfl, Nat.le_of_ble_eq_true rfl⟩ (wat_M E _) rfl rfl dX6_latestRead_23 ⟨Nat.le_refl _, Nat.le_refl _⟩ (Nat.le_of_ble_eq_true rfl) ?_
  rintro _ _ ⟨rfl, hy⟩
  obtain rfl := hy.symm
  dsimp only [Option.toList, List.cons_append, List.nil_append]
  exact g_iret h hr hk dX6_latestRead_26 (Nat.zero_le _) (Nat.zero_le _) ⟨rfl, Eq.symm rfl⟩
theorem in_X6_hits_X6 : ∀ w ∈ wsX60, w ∈ wsX6_hits := by decide +kernel
theorem lk_X6_hits_83 : Cond.fieldLink RX6 83 "CacheDirectoryModel" "thrown" "I" ∈ wsX6_hits := by decide +kernel
theorem lk_X6_hits_28 : Cond.fieldLink RX6 28 "CacheDirectoryModel" "hits" "[I" ∈ wsX6_hits := by decide +kernel
def r_X6_hits_ok (x : St) (i : Nat) : Int32 :=
  let x1 := x.setFM 0 (nI 0)
  x1.AM 6 i
def s_X6_hits_ok (x : St) (i : Nat) : St :=
  let x1 := x.setFM 0 (nI 0)
  x1
set_option maxRecDepth 100000 in
set_option maxHeartbeats 400000 in
theorem c_X6_hits_ok (l : Launch) (E : gE) (x : St) (i : Nat) (hi : i < 4) : Ct l yX6_hits wsX6_hits { frames := 1, cells := 0, slots := 0, locals := 20 } E [.ref (aM E), .int (nI i)] x (fun v y => v = some (.int (r_X6_hits_ok x i)) ∧ y = s_X6_hits_ok x i) 0 0 := by
  refine Ct.of (cc := cX6_hits) (nL := 2) (ret := (some .int)) (by decide) rfl (Nat.le_of_ble_eq_true rfl) ?_
  intro p e s m args below meth c h hr hk hname
  refine g_lvs (lv' := [(0, _), (1, _)]) rfl ?_
  refine g_aload_n h 0 dX6_hits_0 rfl rfl ?_
  refine g_iconst (v := nI 0) h dX6_hits_1 (by decide) ?_
  refine g_put (C := RX6) (T := TX6) (N := 29) h 0 tyX6 (ws_M0 E _ _) rfl in_X6_hits_X6 tyX6_ok nmX6 (by decide) lk_X6_hits_83 rfl rfl rfl rfl rfl (Nat.le_of_ble_eq_true rfl) dX6_hits_2 ?_
  refine g_iload_n h 1 dX6_hits_5 rfl rfl ?_
  refine g_callS (As := [.int (nI i)]) h 1 (c_X6_isCache_t l E _ i (by omega)) rfl gX6_hits_X6_isCache rfl rfl rfl rfl (by decide +kernel) ⟨Nat.le_of_ble_eq_true rfl, Nat.le_of_ble_eq_true rfl⟩ dX6_hits_6 ⟨Nat.le_refl _, Nat.le_refl _⟩ (Nat.le_of_ble_eq_true rfl) ?_
  rintro _ _ ⟨rfl, hy⟩
  obtain rfl := hy.symm
  dsimp only [Option.toList, List.cons_append, List.nil_append]
  refine g_if_eq h 21 dX6_hits_9 (by decide) (fun c_9 => absurd c_9 (by decide)) (fun c_9 => ?_)
  refine g_aload_n h 0 dX6_hits_12 rfl rfl ?_
  refine g_get (C := RX6) (T := TX6) (N := 29) h 8 (wat_M E _) rfl in_X6_hits_X6 (by decide) lk_X6_hits_28 rfl rfl dX6_hits_13 ?_
  refine g_iload_n h 1 dX6_hits_16 rfl rfl ?_
  refine g_iald (n := 4) h (wat_Y E _ (i := 6) (by decide)) (by omega) (by decide) dX6_hits_17 ?_
  refine g_goto h 26 dX6_hits_18 (by decide) ?_
  exact g_iret h hr hk dX6_hits_26 (Nat.zero_le _) (Nat.zero_le _) ⟨congrArg (fun z => some (Value.int z)) (Eq.symm rfl), Eq.symm rfl⟩
def s_X6_hits_bc (x : St) (a : Int32) : St :=
  let x1 := x.setFM 0 (nI 0)
  let x2 := s_X6_fail x1 (nI 1)
  x2
set_option maxRecDepth 100000 in
set_option maxHeartbeats 400000 in
theorem c_X6_hits_bc (l : Launch) (E : gE) (x : St) (a : Int32) (ha : badC a) : Ct l yX6_hits wsX6_hits { frames := 1, cells := 0, slots := 0, locals := 21 } E [.ref (aM E), .int a] x (fun v y => v = some (.int (nI 0)) ∧ y = s_X6_hits_bc x a) 0 0 := by
  refine Ct.of (cc := cX6_hits) (nL := 2) (ret := (some .int)) (by decide) rfl (Nat.le_of_ble_eq_true rfl) ?_
  intro p e s m args below meth c h hr hk hname
  refine g_lvs (lv' := [(0, _), (1, _)]) rfl ?_
  refine g_aload_n h 0 dX6_hits_0 rfl rfl ?_
  refine g_iconst (v := nI 0) h dX6_hits_1 (by decide) ?_
  refine g_put (C := RX6) (T := TX6) (N := 29) h 0 tyX6 (ws_M0 E _ _) rfl in_X6_hits_X6 tyX6_ok nmX6 (by decide) lk_X6_hits_83 rfl rfl rfl rfl rfl (Nat.le_of_ble_eq_true rfl) dX6_hits_2 ?_
  refine g_iload_n h 1 dX6_hits_5 rfl rfl ?_
  refine g_callS (As := [.int _]) h 1 (c_X6_isCache_f l E _ a ha) rfl gX6_hits_X6_isCache rfl rfl rfl rfl (by decide +kernel) ⟨Nat.le_of_ble_eq_true rfl, Nat.le_of_ble_eq_true rfl⟩ dX6_hits_6 ⟨Nat.le_refl _, Nat.le_refl _⟩ (Nat.le_of_ble_eq_true rfl) ?_
  rintro _ _ ⟨rfl, hy⟩
  obtain rfl := hy.symm
  dsimp only [Option.toList, List.cons_append, List.nil_append]
  refine g_if_eq h 21 dX6_hits_9 (by decide) (fun c_9 => ?_) (fun c_9 => absurd c_9 (by decide))
  refine g_aload_n h 0 dX6_hits_21 rfl rfl ?_
  refine g_iconst (v := nI 1) h dX6_hits_22 (by decide) ?_
  refine g_callV (As := [.int (nI 1)]) (C := RX6) h 1 (c_X6_fail l E _ 1) rfl gX6_hits_X6_fail rfl rfl rfl rfl (by decide +kernel) ⟨Nat.le_of_ble_eq_true rfl, Nat.le_of_ble_eq_true rfl⟩ (wat_M E _) rfl rfl dX6_hits_23 ⟨Nat.le_refl _, Nat.le_refl _⟩ (Nat.le_of_ble_eq_true rfl) ?_
  rintro _ _ ⟨rfl, hy⟩
  obtain rfl := hy.symm
  dsimp only [Option.toList, List.cons_append, List.nil_append]
  exact g_iret h hr hk dX6_hits_26 (Nat.zero_le _) (Nat.zero_le _) ⟨rfl, Eq.symm rfl⟩
theorem in_X6_misses_X6 : ∀ w ∈ wsX60, w ∈ wsX6_misses := by decide +kernel
theorem lk_X6_misses_83 : Cond.fieldLink RX6 83 "CacheDirectoryModel" "thrown" "I" ∈ wsX6_misses := by decide +kernel
theorem lk_X6_misses_31 : Cond.fieldLink RX6 31 "CacheDirectoryModel" "misses" "[I" ∈ wsX6_misses := by decide +kernel
def r_X6_misses_ok (x : St) (i : Nat) : Int32 :=
  let x1 := x.setFM 0 (nI 0)
  x1.AM 7 i
def s_X6_misses_ok (x : St) (i : Nat) : St :=
  let x1 := x.setFM 0 (nI 0)
  x1
set_option maxRecDepth 100000 in
set_option maxHeartbeats 400000 in
theorem c_X6_misses_ok (l : Launch) (E : gE) (x : St) (i : Nat) (hi : i < 4) : Ct l yX6_misses wsX6_misses { frames := 1, cells := 0, slots := 0, locals := 20 } E [.ref (aM E), .int (nI i)] x (fun v y => v = some (.int (r_X6_misses_ok x i)) ∧ y = s_X6_misses_ok x i) 0 0 := by
  refine Ct.of (cc := cX6_misses) (nL := 2) (ret := (some .int)) (by decide) rfl (Nat.le_of_ble_eq_true rfl) ?_
  intro p e s m args below meth c h hr hk hname
  refine g_lvs (lv' := [(0, _), (1, _)]) rfl ?_
  refine g_aload_n h 0 dX6_misses_0 rfl rfl ?_
  refine g_iconst (v := nI 0) h dX6_misses_1 (by decide) ?_
  refine g_put (C := RX6) (T := TX6) (N := 29) h 0 tyX6 (ws_M0 E _ _) rfl in_X6_misses_X6 tyX6_ok nmX6 (by decide) lk_X6_misses_83 rfl rfl rfl rfl rfl (Nat.le_of_ble_eq_true rfl) dX6_misses_2 ?_
  refine g_iload_n h 1 dX6_misses_5 rfl rfl ?_
  refine g_callS (As := [.int (nI i)]) h 1 (c_X6_isCache_t l E _ i (by omega)) rfl gX6_misses_X6_isCache rfl rfl rfl rfl (by decide +kernel) ⟨Nat.le_of_ble_eq_true rfl, Nat.le_of_ble_eq_true rfl⟩ dX6_misses_6 ⟨Nat.le_refl _, Nat.le_refl _⟩ (Nat.le_of_ble_eq_true rfl) ?_
  rintro _ _ ⟨rfl, hy⟩
  obtain rfl := hy.symm
  dsimp only [Option.toList, List.cons_append, List.nil_append]
  refine g_if_eq h 21 dX6_misses_9 (by decide) (fun c_9 => absurd c_9 (by decide)) (fun c_9 => ?_)
  refine g_aload_n h 0 dX6_misses_12 rfl rfl ?_
  refine g_get (C := RX6) (T := TX6) (N := 29) h 9 (wat_M E _) rfl in_X6_misses_X6 (by decide) lk_X6_misses_31 rfl rfl dX6_misses_13 ?_
  refine g_iload_n h 1 dX6_misses_16 rfl rfl ?_
  refine g_iald (n := 4) h (wat_Y E _ (i := 7) (by decide)) (by omega) (by decide) dX6_misses_17 ?_
  refine g_goto h 26 dX6_misses_18 (by decide) ?_
  exact g_iret h hr hk dX6_misses_26 (Nat.zero_le _) (Nat.zero_le _) ⟨congrArg (fun z => some (Value.int z)) (Eq.symm rfl), Eq.symm rfl⟩
def s_X6_misses_bc (x : St) (a : Int32) : St :=
  let x1 := x.setFM 0 (nI 0)
  let x2 := s_X6_fail x1 (nI 1)
  x2
set_option maxRecDepth 100000 in
set_option maxHeartbeats 400000 in
theorem c_X6_misses_bc (l : Launch) (E : gE) (x : St) (a : Int32) (ha : badC a) : Ct l yX6_misses wsX6_misses { frames := 1, cells := 0, slots := 0, locals := 21 } E [.ref (aM E), .int a] x (fun v y => v = some (.int (nI 0)) ∧ y = s_X6_misses_bc x a) 0 0 := by
  refine Ct.of (cc := cX6_misses) (nL := 2) (ret := (some .int)) (by decide) rfl (Nat.le_of_ble_eq_true rfl) ?_
  intro p e s m args below meth c h hr hk hname
  refine g_lvs (lv' := [(0, _), (1, _)]) rfl ?_
  refine g_aload_n h 0 dX6_misses_0 rfl rfl ?_
  refine g_iconst (v := nI 0) h dX6_misses_1 (by decide) ?_
  refine g_put (C := RX6) (T := TX6) (N := 29) h 0 tyX6 (ws_M0 E _ _) rfl in_X6_misses_X6 tyX6_ok nmX6 (by decide) lk_X6_misses_83 rfl rfl rfl rfl rfl (Nat.le_of_ble_eq_true rfl) dX6_misses_2 ?_
  refine g_iload_n h 1 dX6_misses_5 rfl rfl ?_
  refine g_callS (As := [.int _]) h 1 (c_X6_isCache_f l E _ a ha) rfl gX6_misses_X6_isCache rfl rfl rfl rfl (by decide +kernel) ⟨Nat.le_of_ble_eq_true rfl, Nat.le_of_ble_eq_true rfl⟩ dX6_misses_6 ⟨Nat.le_refl _, Nat.le_refl _⟩ (Nat.le_of_ble_eq_true rfl) ?_
  rintro _ _ ⟨rfl, hy⟩
  obtain rfl := hy.symm
  dsimp only [Option.toList, List.cons_append, List.nil_append]
  refine g_if_eq h 21 dX6_misses_9 (by decide) (fun c_9 => ?_) (fun c_9 => absurd c_9 (by decide))
  refine g_aload_n h 0 dX6_misses_21 rfl rfl ?_
  refine g_iconst (v := nI 1) h dX6_misses_22 (by decide) ?_
  refine g_callV (As := [.int (nI 1)]) (C := RX6) h 1 (c_X6_fail l E _ 1) rfl gX6_misses_X6_fail rfl rfl rfl rfl (by decide +kernel) ⟨Nat.le_of_ble_eq_true rfl, Nat.le_of_ble_eq_true rfl⟩ (wat_M E _) rfl rfl dX6_misses_23 ⟨Nat.le_refl _, Nat.le_refl _⟩ (Nat.le_of_ble_eq_true rfl) ?_
  rintro _ _ ⟨rfl, hy⟩
  obtain rfl := hy.symm
  dsimp only [Option.toList, List.cons_append, List.nil_append]
  exact g_iret h hr hk dX6_misses_26 (Nat.zero_le _) (Nat.zero_le _) ⟨rfl, Eq.symm rfl⟩
theorem in_X6_owner_X6 : ∀ w ∈ wsX60, w ∈ wsX6_owner := by decide +kernel
theorem lk_X6_owner_83 : Cond.fieldLink RX6 83 "CacheDirectoryModel" "thrown" "I" ∈ wsX6_owner := by decide +kernel
theorem lk_X6_owner_62 : Cond.fieldLink RX6 62 "CacheDirectoryModel" "owners" "[I" ∈ wsX6_owner := by decide +kernel
def r_X6_owner_ok (x : St) (i : Nat) : Int32 :=
  let x1 := x.setFM 0 (nI 0)
  x1.AM 17 i
def s_X6_owner_ok (x : St) (i : Nat) : St :=
  let x1 := x.setFM 0 (nI 0)
  x1
set_option maxRecDepth 100000 in
set_option maxHeartbeats 400000 in
theorem c_X6_owner_ok (l : Launch) (E : gE) (x : St) (i : Nat) (hi : i < 16) : Ct l yX6_owner wsX6_owner { frames := 1, cells := 0, slots := 0, locals := 20 } E [.ref (aM E), .int (nI i)] x (fun v y => v = some (.int (r_X6_owner_ok x i)) ∧ y = s_X6_owner_ok x i) 0 0 := by
  refine Ct.of (cc := cX6_owner) (nL := 2) (ret := (some .int)) (by decide) rfl (Nat.le_of_ble_eq_true rfl) ?_
  intro p e s m args below meth c h hr hk hname
  refine g_lvs (lv' := [(0, _), (1, _)]) rfl ?_
  refine g_aload_n h 0 dX6_owner_0 rfl rfl ?_
  refine g_iconst (v := nI 0) h dX6_owner_1 (by decide) ?_
  refine g_put (C := RX6) (T := TX6) (N := 29) h 0 tyX6 (ws_M0 E _ _) rfl in_X6_owner_X6 tyX6_ok nmX6 (by decide) lk_X6_owner_83 rfl rfl rfl rfl rfl (Nat.le_of_ble_eq_true rfl) dX6_owner_2 ?_
  refine g_iload_n h 1 dX6_owner_5 rfl rfl ?_
  refine g_callS (As := [.int (nI i)]) h 1 (c_X6_isLine_t l E _ i (by omega)) rfl gX6_owner_X6_isLine rfl rfl rfl rfl (by decide +kernel) ⟨Nat.le_of_ble_eq_true rfl, Nat.le_of_ble_eq_true rfl⟩ dX6_owner_6 ⟨Nat.le_refl _, Nat.le_refl _⟩ (Nat.le_of_ble_eq_true rfl) ?_
  rintro _ _ ⟨rfl, hy⟩
  obtain rfl := hy.symm
  dsimp only [Option.toList, List.cons_append, List.nil_append]
  refine g_if_eq h 21 dX6_owner_9 (by decide) (fun c_9 => absurd c_9 (by decide)) (fun c_9 => ?_)
  refine g_aload_n h 0 dX6_owner_12 rfl rfl ?_
  refine g_get (C := RX6) (T := TX6) (N := 29) h 19 (wat_M E _) rfl in_X6_owner_X6 (by decide) lk_X6_owner_62 rfl rfl dX6_owner_13 ?_
  refine g_iload_n h 1 dX6_owner_16 rfl rfl ?_
  refine g_iald (n := 16) h (wat_Y E _ (i := 17) (by decide)) (by omega) (by decide) dX6_owner_17 ?_
  refine g_goto h 26 dX6_owner_18 (by decide) ?_
  exact g_iret h hr hk dX6_owner_26 (Nat.zero_le _) (Nat.zero_le _) ⟨congrArg (fun z => some (Value.int z)) (Eq.symm rfl), Eq.symm rfl⟩
def s_X6_owner_bl (x : St) (a : Int32) : St :=
  let x1 := x.setFM 0 (nI 0)
  let x2 := s_X6_fail x1 (nI 1)
  x2
set_option maxRecDepth 100000 in
set_option maxHeartbeats 400000 in
theorem c_X6_owner_bl (l : Launch) (E : gE) (x : St) (a : Int32) (ha : badL a) : Ct l yX6_owner wsX6_owner { frames := 1, cells := 0, slots := 0, locals := 21 } E [.ref (aM E), .int a] x (fun v y => v = some (.int (nI 0)) ∧ y = s_X6_owner_bl x a) 0 0 := by
  refine Ct.of (cc := cX6_owner) (nL := 2) (ret := (some .int)) (by decide) rfl (Nat.le_of_ble_eq_true rfl) ?_
  intro p e s m args below meth c h hr hk hname
  refine g_lvs (lv' := [(0, _), (1, _)]) rfl ?_
  refine g_aload_n h 0 dX6_owner_0 rfl rfl ?_
  refine g_iconst (v := nI 0) h dX6_owner_1 (by decide) ?_
  refine g_put (C := RX6) (T := TX6) (N := 29) h 0 tyX6 (ws_M0 E _ _) rfl in_X6_owner_X6 tyX6_ok nmX6 (by decide) lk_X6_owner_83 rfl rfl rfl rfl rfl (Nat.le_of_ble_eq_true rfl) dX6_owner_2 ?_
  refine g_iload_n h 1 dX6_owner_5 rfl rfl ?_
  refine g_callS (As := [.int _]) h 1 (c_X6_isLine_f l E _ a ha) rfl gX6_owner_X6_isLine rfl rfl rfl rfl (by decide +kernel) ⟨Nat.le_of_ble_eq_true rfl, Nat.le_of_ble_eq_true rfl⟩ dX6_owner_6 ⟨Nat.le_refl _, Nat.le_refl _⟩ (Nat.le_of_ble_eq_true rfl) ?_
  rintro _ _ ⟨rfl, hy⟩
  obtain rfl := hy.symm
  dsimp only [Option.toList, List.cons_append, List.nil_append]
  refine g_if_eq h 21 dX6_owner_9 (by decide) (fun c_9 => ?_) (fun c_9 => absurd c_9 (by decide))
  refine g_aload_n h 0 dX6_owner_21 rfl rfl ?_
  refine g_iconst (v := nI 1) h dX6_owner_22 (by decide) ?_
  refine g_callV (As := [.int (nI 1)]) (C := RX6) h 1 (c_X6_fail l E _ 1) rfl gX6_owner_X6_fail rfl rfl rfl rfl (by decide +kernel) ⟨Nat.le_of_ble_eq_true rfl, Nat.le_of_ble_eq_true rfl⟩ (wat_M E _) rfl rfl dX6_owner_23 ⟨Nat.le_refl _, Nat.le_refl _⟩ (Nat.le_of_ble_eq_true rfl) ?_
  rintro _ _ ⟨rfl, hy⟩
  obtain rfl := hy.symm
  dsimp only [Option.toList, List.cons_append, List.nil_append]
  exact g_iret h hr hk dX6_owner_26 (Nat.zero_le _) (Nat.zero_le _) ⟨rfl, Eq.symm rfl⟩
theorem in_X6_sharers_X6 : ∀ w ∈ wsX60, w ∈ wsX6_sharers := by decide +kernel
theorem lk_X6_sharers_83 : Cond.fieldLink RX6 83 "CacheDirectoryModel" "thrown" "I" ∈ wsX6_sharers := by decide +kernel
theorem lk_X6_sharers_65 : Cond.fieldLink RX6 65 "CacheDirectoryModel" "sharers" "[I" ∈ wsX6_sharers := by decide +kernel
def r_X6_sharers_ok (x : St) (i : Nat) : Int32 :=
  let x1 := x.setFM 0 (nI 0)
  x1.AM 18 i
def s_X6_sharers_ok (x : St) (i : Nat) : St :=
  let x1 := x.setFM 0 (nI 0)
  x1
set_option maxRecDepth 100000 in
set_option maxHeartbeats 400000 in
theorem c_X6_sharers_ok (l : Launch) (E : gE) (x : St) (i : Nat) (hi : i < 16) : Ct l yX6_sharers wsX6_sharers { frames := 1, cells := 0, slots := 0, locals := 20 } E [.ref (aM E), .int (nI i)] x (fun v y => v = some (.int (r_X6_sharers_ok x i)) ∧ y = s_X6_sharers_ok x i) 0 0 := by
  refine Ct.of (cc := cX6_sharers) (nL := 2) (ret := (some .int)) (by decide) rfl (Nat.le_of_ble_eq_true rfl) ?_
  intro p e s m args below meth c h hr hk hname
  refine g_lvs (lv' := [(0, _), (1, _)]) rfl ?_
  refine g_aload_n h 0 dX6_sharers_0 rfl rfl ?_
  refine g_iconst (v := nI 0) h dX6_sharers_1 (by decide) ?_
  refine g_put (C := RX6) (T := TX6) (N := 29) h 0 tyX6 (ws_M0 E _ _) rfl in_X6_sharers_X6 tyX6_ok nmX6 (by decide) lk_X6_sharers_83 rfl rfl rfl rfl rfl (Nat.le_of_ble_eq_true rfl) dX6_sharers_2 ?_
  refine g_iload_n h 1 dX6_sharers_5 rfl rfl ?_
  refine g_callS (As := [.int (nI i)]) h 1 (c_X6_isLine_t l E _ i (by omega)) rfl gX6_sharers_X6_isLine rfl rfl rfl rfl (by decide +kernel) ⟨Nat.le_of_ble_eq_true rfl, Nat.le_of_ble_eq_true rfl⟩ dX6_sharers_6 ⟨Nat.le_refl _, Nat.le_refl _⟩ (Nat.le_of_ble_eq_true rfl) ?_
  rintro _ _ ⟨rfl, hy⟩
  obtain rfl := hy.symm
  dsimp only [Option.toList, List.cons_append, List.nil_append]
  refine g_if_eq h 21 dX6_sharers_9 (by decide) (fun c_9 => absurd c_9 (by decide)) (fun c_9 => ?_)
  refine g_aload_n h 0 dX6_sharers_12 rfl rfl ?_
  refine g_get (C := RX6) (T := TX6) (N := 29) h 20 (wat_M E _) rfl in_X6_sharers_X6 (by decide) lk_X6_sharers_65 rfl rfl dX6_sharers_13 ?_
  refine g_iload_n h 1 dX6_sharers_16 rfl rfl ?_
  refine g_iald (n := 16) h (wat_Y E _ (i := 18) (by decide)) (by omega) (by decide) dX6_sharers_17 ?_
  refine g_goto h 26 dX6_sharers_18 (by decide) ?_
  exact g_iret h hr hk dX6_sharers_26 (Nat.zero_le _) (Nat.zero_le _) ⟨congrArg (fun z => some (Value.int z)) (Eq.symm rfl), Eq.symm rfl⟩
def s_X6_sharers_bl (x : St) (a : Int32) : St :=
  let x1 := x.setFM 0 (nI 0)
  let x2 := s_X6_fail x1 (nI 1)
  x2
set_option maxRecDepth 100000 in
set_option maxHeartbeats 400000 in
theorem c_X6_sharers_bl (l : Launch) (E : gE) (x : St) (a : Int32) (ha : badL a) : Ct l yX6_sharers wsX6_sharers { frames := 1, cells := 0, slots := 0, locals := 21 } E [.ref (aM E), .int a] x (fun v y => v = some (.int (nI 0)) ∧ y = s_X6_sharers_bl x a) 0 0 := by
  refine Ct.of (cc := cX6_sharers) (nL := 2) (ret := (some .int)) (by decide) rfl (Nat.le_of_ble_eq_true rfl) ?_
  intro p e s m args below meth c h hr hk hname
  refine g_lvs (lv' := [(0, _), (1, _)]) rfl ?_
  refine g_aload_n h 0 dX6_sharers_0 rfl rfl ?_
  refine g_iconst (v := nI 0) h dX6_sharers_1 (by decide) ?_
  refine g_put (C := RX6) (T := TX6) (N := 29) h 0 tyX6 (ws_M0 E _ _) rfl in_X6_sharers_X6 tyX6_ok nmX6 (by decide) lk_X6_sharers_83 rfl rfl rfl rfl rfl (Nat.le_of_ble_eq_true rfl) dX6_sharers_2 ?_
  refine g_iload_n h 1 dX6_sharers_5 rfl rfl ?_
  refine g_callS (As := [.int _]) h 1 (c_X6_isLine_f l E _ a ha) rfl gX6_sharers_X6_isLine rfl rfl rfl rfl (by decide +kernel) ⟨Nat.le_of_ble_eq_true rfl, Nat.le_of_ble_eq_true rfl⟩ dX6_sharers_6 ⟨Nat.le_refl _, Nat.le_refl _⟩ (Nat.le_of_ble_eq_true rfl) ?_
  rintro _ _ ⟨rfl, hy⟩
  obtain rfl := hy.symm
  dsimp only [Option.toList, List.cons_append, List.nil_append]
  refine g_if_eq h 21 dX6_sharers_9 (by decide) (fun c_9 => ?_) (fun c_9 => absurd c_9 (by decide))
  refine g_aload_n h 0 dX6_sharers_21 rfl rfl ?_
  refine g_iconst (v := nI 1) h dX6_sharers_22 (by decide) ?_
  refine g_callV (As := [.int (nI 1)]) (C := RX6) h 1 (c_X6_fail l E _ 1) rfl gX6_sharers_X6_fail rfl rfl rfl rfl (by decide +kernel) ⟨Nat.le_of_ble_eq_true rfl, Nat.le_of_ble_eq_true rfl⟩ (wat_M E _) rfl rfl dX6_sharers_23 ⟨Nat.le_refl _, Nat.le_refl _⟩ (Nat.le_of_ble_eq_true rfl) ?_
  rintro _ _ ⟨rfl, hy⟩
  obtain rfl := hy.symm
  dsimp only [Option.toList, List.cons_append, List.nil_append]
  exact g_iret h hr hk dX6_sharers_26 (Nat.zero_le _) (Nat.zero_le _) ⟨rfl, Eq.symm rfl⟩
theorem in_X6_queued_X6 : ∀ w ∈ wsX60, w ∈ wsX6_queued := by decide +kernel
theorem lk_X6_queued_83 : Cond.fieldLink RX6 83 "CacheDirectoryModel" "thrown" "I" ∈ wsX6_queued := by decide +kernel
theorem lk_X6_queued_74 : Cond.fieldLink RX6 74 "CacheDirectoryModel" "queued" "[I" ∈ wsX6_queued := by decide +kernel
def r_X6_queued_ok (x : St) (i : Nat) : Int32 :=
  let x1 := x.setFM 0 (nI 0)
  x1.AM 21 i
def s_X6_queued_ok (x : St) (i : Nat) : St :=
  let x1 := x.setFM 0 (nI 0)
  x1
set_option maxRecDepth 100000 in
set_option maxHeartbeats 400000 in
theorem c_X6_queued_ok (l : Launch) (E : gE) (x : St) (i : Nat) (hi : i < 16) : Ct l yX6_queued wsX6_queued { frames := 1, cells := 0, slots := 0, locals := 20 } E [.ref (aM E), .int (nI i)] x (fun v y => v = some (.int (r_X6_queued_ok x i)) ∧ y = s_X6_queued_ok x i) 0 0 := by
  refine Ct.of (cc := cX6_queued) (nL := 2) (ret := (some .int)) (by decide) rfl (Nat.le_of_ble_eq_true rfl) ?_
  intro p e s m args below meth c h hr hk hname
  refine g_lvs (lv' := [(0, _), (1, _)]) rfl ?_
  refine g_aload_n h 0 dX6_queued_0 rfl rfl ?_
  refine g_iconst (v := nI 0) h dX6_queued_1 (by decide) ?_
  refine g_put (C := RX6) (T := TX6) (N := 29) h 0 tyX6 (ws_M0 E _ _) rfl in_X6_queued_X6 tyX6_ok nmX6 (by decide) lk_X6_queued_83 rfl rfl rfl rfl rfl (Nat.le_of_ble_eq_true rfl) dX6_queued_2 ?_
  refine g_iload_n h 1 dX6_queued_5 rfl rfl ?_
  refine g_callS (As := [.int (nI i)]) h 1 (c_X6_isLine_t l E _ i (by omega)) rfl gX6_queued_X6_isLine rfl rfl rfl rfl (by decide +kernel) ⟨Nat.le_of_ble_eq_true rfl, Nat.le_of_ble_eq_true rfl⟩ dX6_queued_6 ⟨Nat.le_refl _, Nat.le_refl _⟩ (Nat.le_of_ble_eq_true rfl) ?_
  rintro _ _ ⟨rfl, hy⟩
  obtain rfl := hy.symm
  dsimp only [Option.toList, List.cons_append, List.nil_append]
  refine g_if_eq h 21 dX6_queued_9 (by decide) (fun c_9 => absurd c_9 (by decide)) (fun c_9 => ?_)
  refine g_aload_n h 0 dX6_queued_12 rfl rfl ?_
  refine g_get (C := RX6) (T := TX6) (N := 29) h 23 (wat_M E _) rfl in_X6_queued_X6 (by decide) lk_X6_queued_74 rfl rfl dX6_queued_13 ?_
  refine g_iload_n h 1 dX6_queued_16 rfl rfl ?_
  refine g_iald (n := 16) h (wat_Y E _ (i := 21) (by decide)) (by omega) (by decide) dX6_queued_17 ?_
  refine g_goto h 26 dX6_queued_18 (by decide) ?_
  exact g_iret h hr hk dX6_queued_26 (Nat.zero_le _) (Nat.zero_le _) ⟨congrArg (fun z => some (Value.int z)) (Eq.symm rfl), Eq.symm rfl⟩
def s_X6_queued_bl (x : St) (a : Int32) : St :=
  let x1 := x.setFM 0 (nI 0)
  let x2 := s_X6_fail x1 (nI 1)
  x2
set_option maxRecDepth 100000 in
set_option maxHeartbeats 400000 in
theorem c_X6_queued_bl (l : Launch) (E : gE) (x : St) (a : Int32) (ha : badL a) : Ct l yX6_queued wsX6_queued { frames := 1, cells := 0, slots := 0, locals := 21 } E [.ref (aM E), .int a] x (fun v y => v = some (.int (nI 0)) ∧ y = s_X6_queued_bl x a) 0 0 := by
  refine Ct.of (cc := cX6_queued) (nL := 2) (ret := (some .int)) (by decide) rfl (Nat.le_of_ble_eq_true rfl) ?_
  intro p e s m args below meth c h hr hk hname
  refine g_lvs (lv' := [(0, _), (1, _)]) rfl ?_
  refine g_aload_n h 0 dX6_queued_0 rfl rfl ?_
  refine g_iconst (v := nI 0) h dX6_queued_1 (by decide) ?_
  refine g_put (C := RX6) (T := TX6) (N := 29) h 0 tyX6 (ws_M0 E _ _) rfl in_X6_queued_X6 tyX6_ok nmX6 (by decide) lk_X6_queued_83 rfl rfl rfl rfl rfl (Nat.le_of_ble_eq_true rfl) dX6_queued_2 ?_
  refine g_iload_n h 1 dX6_queued_5 rfl rfl ?_
  refine g_callS (As := [.int _]) h 1 (c_X6_isLine_f l E _ a ha) rfl gX6_queued_X6_isLine rfl rfl rfl rfl (by decide +kernel) ⟨Nat.le_of_ble_eq_true rfl, Nat.le_of_ble_eq_true rfl⟩ dX6_queued_6 ⟨Nat.le_refl _, Nat.le_refl _⟩ (Nat.le_of_ble_eq_true rfl) ?_
  rintro _ _ ⟨rfl, hy⟩
  obtain rfl := hy.symm
  dsimp only [Option.toList, List.cons_append, List.nil_append]
  refine g_if_eq h 21 dX6_queued_9 (by decide) (fun c_9 => ?_) (fun c_9 => absurd c_9 (by decide))
  refine g_aload_n h 0 dX6_queued_21 rfl rfl ?_
  refine g_iconst (v := nI 1) h dX6_queued_22 (by decide) ?_
  refine g_callV (As := [.int (nI 1)]) (C := RX6) h 1 (c_X6_fail l E _ 1) rfl gX6_queued_X6_fail rfl rfl rfl rfl (by decide +kernel) ⟨Nat.le_of_ble_eq_true rfl, Nat.le_of_ble_eq_true rfl⟩ (wat_M E _) rfl rfl dX6_queued_23 ⟨Nat.le_refl _, Nat.le_refl _⟩ (Nat.le_of_ble_eq_true rfl) ?_
  rintro _ _ ⟨rfl, hy⟩
  obtain rfl := hy.symm
  dsimp only [Option.toList, List.cons_append, List.nil_append]
  exact g_iret h hr hk dX6_queued_26 (Nat.zero_le _) (Nat.zero_le _) ⟨rfl, Eq.symm rfl⟩
theorem in_X6_memory_X6 : ∀ w ∈ wsX60, w ∈ wsX6_memory := by decide +kernel
theorem lk_X6_memory_83 : Cond.fieldLink RX6 83 "CacheDirectoryModel" "thrown" "I" ∈ wsX6_memory := by decide +kernel
theorem lk_X6_memory_59 : Cond.fieldLink RX6 59 "CacheDirectoryModel" "memory" "[I" ∈ wsX6_memory := by decide +kernel
def r_X6_memory_ok (x : St) (i : Nat) : Int32 :=
  let x1 := x.setFM 0 (nI 0)
  x1.AM 16 i
def s_X6_memory_ok (x : St) (i : Nat) : St :=
  let x1 := x.setFM 0 (nI 0)
  x1
set_option maxRecDepth 100000 in
set_option maxHeartbeats 400000 in
theorem c_X6_memory_ok (l : Launch) (E : gE) (x : St) (i : Nat) (hi : i < 16) : Ct l yX6_memory wsX6_memory { frames := 1, cells := 0, slots := 0, locals := 20 } E [.ref (aM E), .int (nI i)] x (fun v y => v = some (.int (r_X6_memory_ok x i)) ∧ y = s_X6_memory_ok x i) 0 0 := by
  refine Ct.of (cc := cX6_memory) (nL := 2) (ret := (some .int)) (by decide) rfl (Nat.le_of_ble_eq_true rfl) ?_
  intro p e s m args below meth c h hr hk hname
  refine g_lvs (lv' := [(0, _), (1, _)]) rfl ?_
  refine g_aload_n h 0 dX6_memory_0 rfl rfl ?_
  refine g_iconst (v := nI 0) h dX6_memory_1 (by decide) ?_
  refine g_put (C := RX6) (T := TX6) (N := 29) h 0 tyX6 (ws_M0 E _ _) rfl in_X6_memory_X6 tyX6_ok nmX6 (by decide) lk_X6_memory_83 rfl rfl rfl rfl rfl (Nat.le_of_ble_eq_true rfl) dX6_memory_2 ?_
  refine g_iload_n h 1 dX6_memory_5 rfl rfl ?_
  refine g_callS (As := [.int (nI i)]) h 1 (c_X6_isLine_t l E _ i (by omega)) rfl gX6_memory_X6_isLine rfl rfl rfl rfl (by decide +kernel) ⟨Nat.le_of_ble_eq_true rfl, Nat.le_of_ble_eq_true rfl⟩ dX6_memory_6 ⟨Nat.le_refl _, Nat.le_refl _⟩ (Nat.le_of_ble_eq_true rfl) ?_
  rintro _ _ ⟨rfl, hy⟩
  obtain rfl := hy.symm
  dsimp only [Option.toList, List.cons_append, List.nil_append]
  refine g_if_eq h 21 dX6_memory_9 (by decide) (fun c_9 => absurd c_9 (by decide)) (fun c_9 => ?_)
  refine g_aload_n h 0 dX6_memory_12 rfl rfl ?_
  refine g_get (C := RX6) (T := TX6) (N := 29) h 18 (wat_M E _) rfl in_X6_memory_X6 (by decide) lk_X6_memory_59 rfl rfl dX6_memory_13 ?_
  refine g_iload_n h 1 dX6_memory_16 rfl rfl ?_
  refine g_iald (n := 16) h (wat_Y E _ (i := 16) (by decide)) (by omega) (by decide) dX6_memory_17 ?_
  refine g_goto h 26 dX6_memory_18 (by decide) ?_
  exact g_iret h hr hk dX6_memory_26 (Nat.zero_le _) (Nat.zero_le _) ⟨congrArg (fun z => some (Value.int z)) (Eq.symm rfl), Eq.symm rfl⟩
def s_X6_memory_bl (x : St) (a : Int32) : St :=
  let x1 := x.setFM 0 (nI 0)
  let x2 := s_X6_fail x1 (nI 1)
  x2
set_option maxRecDepth 100000 in
set_option maxHeartbeats 400000 in
theorem c_X6_memory_bl (l : Launch) (E : gE) (x : St) (a : Int32) (ha : badL a) : Ct l yX6_memory wsX6_memory { frames := 1, cells := 0, slots := 0, locals := 21 } E [.ref (aM E), .int a] x (fun v y => v = some (.int (nI 0)) ∧ y = s_X6_memory_bl x a) 0 0 := by
  refine Ct.of (cc := cX6_memory) (nL := 2) (ret := (some .int)) (by decide) rfl (Nat.le_of_ble_eq_true rfl) ?_
  intro p e s m args below meth c h hr hk hname
  refine g_lvs (lv' := [(0, _), (1, _)]) rfl ?_
  refine g_aload_n h 0 dX6_memory_0 rfl rfl ?_
  refine g_iconst (v := nI 0) h dX6_memory_1 (by decide) ?_
  refine g_put (C := RX6) (T := TX6) (N := 29) h 0 tyX6 (ws_M0 E _ _) rfl in_X6_memory_X6 tyX6_ok nmX6 (by decide) lk_X6_memory_83 rfl rfl rfl rfl rfl (Nat.le_of_ble_eq_true rfl) dX6_memory_2 ?_
  refine g_iload_n h 1 dX6_memory_5 rfl rfl ?_
  refine g_callS (As := [.int _]) h 1 (c_X6_isLine_f l E _ a ha) rfl gX6_memory_X6_isLine rfl rfl rfl rfl (by decide +kernel) ⟨Nat.le_of_ble_eq_true rfl, Nat.le_of_ble_eq_true rfl⟩ dX6_memory_6 ⟨Nat.le_refl _, Nat.le_refl _⟩ (Nat.le_of_ble_eq_true rfl) ?_
  rintro _ _ ⟨rfl, hy⟩
  obtain rfl := hy.symm
  dsimp only [Option.toList, List.cons_append, List.nil_append]
  refine g_if_eq h 21 dX6_memory_9 (by decide) (fun c_9 => ?_) (fun c_9 => absurd c_9 (by decide))
  refine g_aload_n h 0 dX6_memory_21 rfl rfl ?_
  refine g_iconst (v := nI 1) h dX6_memory_22 (by decide) ?_
  refine g_callV (As := [.int (nI 1)]) (C := RX6) h 1 (c_X6_fail l E _ 1) rfl gX6_memory_X6_fail rfl rfl rfl rfl (by decide +kernel) ⟨Nat.le_of_ble_eq_true rfl, Nat.le_of_ble_eq_true rfl⟩ (wat_M E _) rfl rfl dX6_memory_23 ⟨Nat.le_refl _, Nat.le_refl _⟩ (Nat.le_of_ble_eq_true rfl) ?_
  rintro _ _ ⟨rfl, hy⟩
  obtain rfl := hy.symm
  dsimp only [Option.toList, List.cons_append, List.nil_append]
  exact g_iret h hr hk dX6_memory_26 (Nat.zero_le _) (Nat.zero_le _) ⟨rfl, Eq.symm rfl⟩
theorem in_X6_isBusy_X6 : ∀ w ∈ wsX60, w ∈ wsX6_isBusy := by decide +kernel
theorem lk_X6_isBusy_83 : Cond.fieldLink RX6 83 "CacheDirectoryModel" "thrown" "I" ∈ wsX6_isBusy := by decide +kernel
theorem lk_X6_isBusy_68 : Cond.fieldLink RX6 68 "CacheDirectoryModel" "isBusy" "[Z" ∈ wsX6_isBusy := by decide +kernel
def r_X6_isBusy_ok (x : St) (i : Nat) : Int32 :=
  let x1 := x.setFM 0 (nI 0)
  x1.AM 19 i
def s_X6_isBusy_ok (x : St) (i : Nat) : St :=
  let x1 := x.setFM 0 (nI 0)
  x1
set_option maxRecDepth 100000 in
set_option maxHeartbeats 400000 in
theorem c_X6_isBusy_ok (l : Launch) (E : gE) (x : St) (i : Nat) (hi : i < 16) (hz : narrow .boolean (.int (x.AM 19 i)) = .int (x.AM 19 i)) : Ct l yX6_isBusy wsX6_isBusy { frames := 1, cells := 0, slots := 0, locals := 20 } E [.ref (aM E), .int (nI i)] x (fun v y => v = some (.int (r_X6_isBusy_ok x i)) ∧ y = s_X6_isBusy_ok x i) 0 0 := by
  refine Ct.of (cc := cX6_isBusy) (nL := 2) (ret := (some .boolean)) (by decide) rfl (Nat.le_of_ble_eq_true rfl) ?_
  intro p e s m args below meth c h hr hk hname
  refine g_lvs (lv' := [(0, _), (1, _)]) rfl ?_
  refine g_aload_n h 0 dX6_isBusy_0 rfl rfl ?_
  refine g_iconst (v := nI 0) h dX6_isBusy_1 (by decide) ?_
  refine g_put (C := RX6) (T := TX6) (N := 29) h 0 tyX6 (ws_M0 E _ _) rfl in_X6_isBusy_X6 tyX6_ok nmX6 (by decide) lk_X6_isBusy_83 rfl rfl rfl rfl rfl (Nat.le_of_ble_eq_true rfl) dX6_isBusy_2 ?_
  refine g_iload_n h 1 dX6_isBusy_5 rfl rfl ?_
  refine g_callS (As := [.int (nI i)]) h 1 (c_X6_isLine_t l E _ i (by omega)) rfl gX6_isBusy_X6_isLine rfl rfl rfl rfl (by decide +kernel) ⟨Nat.le_of_ble_eq_true rfl, Nat.le_of_ble_eq_true rfl⟩ dX6_isBusy_6 ⟨Nat.le_refl _, Nat.le_refl _⟩ (Nat.le_of_ble_eq_true rfl) ?_
  rintro _ _ ⟨rfl, hy⟩
  obtain rfl := hy.symm
  dsimp only [Option.toList, List.cons_append, List.nil_append]
  refine g_if_eq h 21 dX6_isBusy_9 (by decide) (fun c_9 => absurd c_9 (by decide)) (fun c_9 => ?_)
  refine g_aload_n h 0 dX6_isBusy_12 rfl rfl ?_
  refine g_get (C := RX6) (T := TX6) (N := 29) h 21 (wat_M E _) rfl in_X6_isBusy_X6 (by decide) lk_X6_isBusy_68 rfl rfl dX6_isBusy_13 ?_
  refine g_iload_n h 1 dX6_isBusy_16 rfl rfl ?_
  refine g_zald (n := 16) h (wat_Y E _ (i := 19) (by decide)) (by omega) (by decide) dX6_isBusy_17 ?_
  refine g_goto h 26 dX6_isBusy_18 (by decide) ?_
  exact g_zret h hr hk (hz) dX6_isBusy_26 (Nat.zero_le _) (Nat.zero_le _) ⟨congrArg (fun z => some (Value.int z)) (Eq.symm rfl), Eq.symm rfl⟩
def s_X6_isBusy_bl (x : St) (a : Int32) : St :=
  let x1 := x.setFM 0 (nI 0)
  let x2 := s_X6_failed x1 (nI 1)
  x2
set_option maxRecDepth 100000 in
set_option maxHeartbeats 400000 in
theorem c_X6_isBusy_bl (l : Launch) (E : gE) (x : St) (a : Int32) (ha : badL a) : Ct l yX6_isBusy wsX6_isBusy { frames := 1, cells := 0, slots := 0, locals := 21 } E [.ref (aM E), .int a] x (fun v y => v = some (.int (nI 0)) ∧ y = s_X6_isBusy_bl x a) 0 0 := by
  refine Ct.of (cc := cX6_isBusy) (nL := 2) (ret := (some .boolean)) (by decide) rfl (Nat.le_of_ble_eq_true rfl) ?_
  intro p e s m args below meth c h hr hk hname
  refine g_lvs (lv' := [(0, _), (1, _)]) rfl ?_
  refine g_aload_n h 0 dX6_isBusy_0 rfl rfl ?_
  refine g_iconst (v := nI 0) h dX6_isBusy_1 (by decide) ?_
  refine g_put (C := RX6) (T := TX6) (N := 29) h 0 tyX6 (ws_M0 E _ _) rfl in_X6_isBusy_X6 tyX6_ok nmX6 (by decide) lk_X6_isBusy_83 rfl rfl rfl rfl rfl (Nat.le_of_ble_eq_true rfl) dX6_isBusy_2 ?_
  refine g_iload_n h 1 dX6_isBusy_5 rfl rfl ?_
  refine g_callS (As := [.int _]) h 1 (c_X6_isLine_f l E _ a ha) rfl gX6_isBusy_X6_isLine rfl rfl rfl rfl (by decide +kernel) ⟨Nat.le_of_ble_eq_true rfl, Nat.le_of_ble_eq_true rfl⟩ dX6_isBusy_6 ⟨Nat.le_refl _, Nat.le_refl _⟩ (Nat.le_of_ble_eq_true rfl) ?_
  rintro _ _ ⟨rfl, hy⟩
  obtain rfl := hy.symm
  dsimp only [Option.toList, List.cons_append, List.nil_append]
  refine g_if_eq h 21 dX6_isBusy_9 (by decide) (fun c_9 => ?_) (fun c_9 => absurd c_9 (by decide))
  refine g_aload_n h 0 dX6_isBusy_21 rfl rfl ?_
  refine g_iconst (v := nI 1) h dX6_isBusy_22 (by decide) ?_
  refine g_callV (As := [.int (nI 1)]) (C := RX6) h 1 (c_X6_failed l E _ 1) rfl gX6_isBusy_X6_failed rfl rfl rfl rfl (by decide +kernel) ⟨Nat.le_of_ble_eq_true rfl, Nat.le_of_ble_eq_true rfl⟩ (wat_M E _) rfl rfl dX6_isBusy_23 ⟨Nat.le_refl _, Nat.le_refl _⟩ (Nat.le_of_ble_eq_true rfl) ?_
  rintro _ _ ⟨rfl, hy⟩
  obtain rfl := hy.symm
  dsimp only [Option.toList, List.cons_append, List.nil_append]
  exact g_zret h hr hk (by decide) dX6_isBusy_26 (Nat.zero_le _) (Nat.zero_le _) ⟨rfl, Eq.symm rfl⟩
theorem in_X6_lineAt_X6 : ∀ w ∈ wsX60, w ∈ wsX6_lineAt := by decide +kernel
theorem lk_X6_lineAt_83 : Cond.fieldLink RX6 83 "CacheDirectoryModel" "thrown" "I" ∈ wsX6_lineAt := by decide +kernel
def r_X6_lineAt_ok (x : St) (i : Nat) (b : Int32) : Int32 :=
  let x1 := x.setFM 0 (nI 0)
  if 0 ≤ b then
    if (r_X6_lineBy x1 i b) = ((-1 : Int32)) then
      let x2 := s_X6_fail x1 (nI 2)
      nI 0
    else
      r_X6_lineBy x1 i b
  else
    if ((-1 : Int32)) = ((-1 : Int32)) then
      let x3 := s_X6_fail x1 (nI 2)
      nI 0
    else
      (-1 : Int32)
def s_X6_lineAt_ok (x : St) (i : Nat) (b : Int32) : St :=
  let x1 := x.setFM 0 (nI 0)
  if 0 ≤ b then
    if (r_X6_lineBy x1 i b) = ((-1 : Int32)) then
      let x2 := s_X6_fail x1 (nI 2)
      x2
    else
      x1
  else
    if ((-1 : Int32)) = ((-1 : Int32)) then
      let x3 := s_X6_fail x1 (nI 2)
      x3
    else
      x1
set_option maxRecDepth 100000 in
set_option maxHeartbeats 400000 in
theorem c_X6_lineAt_ok (l : Launch) (E : gE) (x : St) (i : Nat) (b : Int32) (hi : i < 4) : Ct l yX6_lineAt wsX6_lineAt { frames := 2, cells := 0, slots := 0, locals := 46 } E [.ref (aM E), .int (nI i), .int b] x (fun v y => v = some (.int (r_X6_lineAt_ok x i b)) ∧ y = s_X6_lineAt_ok x i b) 0 0 := by
  refine Ct.of (cc := cX6_lineAt) (nL := 4) (ret := (some .int)) (by decide) rfl (Nat.le_of_ble_eq_true rfl) ?_
  intro p e s m args below meth c h hr hk hname
  refine g_lvs (lv' := [(0, _), (1, _), (2, _)]) rfl ?_
  refine g_aload_n h 0 dX6_lineAt_0 rfl rfl ?_
  refine g_iconst (v := nI 0) h dX6_lineAt_1 (by decide) ?_
  refine g_put (C := RX6) (T := TX6) (N := 29) h 0 tyX6 (ws_M0 E _ _) rfl in_X6_lineAt_X6 tyX6_ok nmX6 (by decide) lk_X6_lineAt_83 rfl rfl rfl rfl rfl (Nat.le_of_ble_eq_true rfl) dX6_lineAt_2 ?_
  refine g_iload_n h 1 dX6_lineAt_5 rfl rfl ?_
  refine g_callS (As := [.int (nI i)]) h 1 (c_X6_isCache_t l E _ i (by omega)) rfl gX6_lineAt_X6_isCache rfl rfl rfl rfl (by decide +kernel) ⟨Nat.le_of_ble_eq_true rfl, Nat.le_of_ble_eq_true rfl⟩ dX6_lineAt_6 ⟨Nat.le_refl _, Nat.le_refl _⟩ (Nat.le_of_ble_eq_true rfl) ?_
  rintro _ _ ⟨rfl, hy⟩
  obtain rfl := hy.symm
  dsimp only [Option.toList, List.cons_append, List.nil_append]
  refine g_if_ne h 18 dX6_lineAt_9 (by decide) (fun c_9 => ?_) (fun c_9 => absurd c_9 (by decide))
  refine g_iload_n h 2 dX6_lineAt_18 rfl rfl ?_
  refine g_if_ge h 26 dX6_lineAt_19 (by decide) (fun c_19 => ?_) (fun c_19 => ?_)
  · skip
    refine g_aload_n h 0 dX6_lineAt_26 rfl rfl ?_
    refine g_iload_n h 1 dX6_lineAt_27 rfl rfl ?_
    refine g_iload_n h 2 dX6_lineAt_28 rfl rfl ?_
    refine g_callV (As := [.int (nI i), .int _]) (C := RX6) h 2 (c_X6_lineBy l E _ i _ (by omega)) rfl gX6_lineAt_X6_lineBy rfl rfl rfl rfl (by decide +kernel) ⟨Nat.le_of_ble_eq_true rfl, Nat.le_of_ble_eq_true rfl⟩ (wat_M E _) rfl rfl dX6_lineAt_29 ⟨Nat.le_refl _, Nat.le_refl _⟩ (Nat.le_of_ble_eq_true rfl) ?_
    rintro _ _ ⟨rfl, hy⟩
    obtain rfl := hy.symm
    dsimp only [Option.toList, List.cons_append, List.nil_append]
    refine g_istore_n (lv' := [(0, _), (1, _), (2, _), (3, _)]) h [1, 2, 3, 0] dX6_lineAt_32 rfl (by decide) rfl ?_
    refine g_iload_n h 3 dX6_lineAt_33 rfl rfl ?_
    refine g_iconst (v := -1) h dX6_lineAt_34 (by decide) ?_
    refine g_icmp_ne h 46 dX6_lineAt_35 (by decide) (fun c_35 => ?_) (fun c_35 => ?_)
    · skip
      refine g_iload_n h 3 dX6_lineAt_46 rfl rfl ?_
      exact g_iret h hr hk dX6_lineAt_47 (Nat.zero_le _) (Nat.zero_le _) ⟨congrArg (fun z => some (Value.int z)) (Eq.symm (Eq.trans (if_pos c_19) (if_neg c_35))), Eq.symm (Eq.trans (if_pos c_19) (if_neg c_35))⟩
    · skip
      refine g_aload_n h 0 dX6_lineAt_38 rfl rfl ?_
      refine g_iconst (v := nI 2) h dX6_lineAt_39 (by decide) ?_
      refine g_callV (As := [.int (nI 2)]) (C := RX6) h 1 (c_X6_fail l E _ 2) rfl gX6_lineAt_X6_fail rfl rfl rfl rfl (by decide +kernel) ⟨Nat.le_of_ble_eq_true rfl, Nat.le_of_ble_eq_true rfl⟩ (wat_M E _) rfl rfl dX6_lineAt_40 ⟨Nat.le_refl _, Nat.le_refl _⟩ (Nat.le_of_ble_eq_true rfl) ?_
      rintro _ _ ⟨rfl, hy⟩
      obtain rfl := hy.symm
      dsimp only [Option.toList, List.cons_append, List.nil_append]
      refine g_goto h 47 dX6_lineAt_43 (by decide) ?_
      exact g_iret h hr hk dX6_lineAt_47 (Nat.zero_le _) (Nat.zero_le _) ⟨congrArg (fun z => some (Value.int z)) (Eq.symm (Eq.trans (if_pos c_19) (if_pos c_35))), Eq.symm (Eq.trans (if_pos c_19) (if_pos c_35))⟩
  · skip
    refine g_iconst (v := -1) h dX6_lineAt_22 (by decide) ?_
    refine g_goto h 32 dX6_lineAt_23 (by decide) ?_
    refine g_istore_n (lv' := [(0, _), (1, _), (2, _), (3, _)]) h [1, 2, 3, 0] dX6_lineAt_32 rfl (by decide) rfl ?_
    refine g_iload_n h 3 dX6_lineAt_33 rfl rfl ?_
    refine g_iconst (v := -1) h dX6_lineAt_34 (by decide) ?_
    refine g_icmp_ne h 46 dX6_lineAt_35 (by decide) (fun c_35 => ?_) (fun c_35 => ?_)
    · skip
      refine g_iload_n h 3 dX6_lineAt_46 rfl rfl ?_
      exact g_iret h hr hk dX6_lineAt_47 (Nat.zero_le _) (Nat.zero_le _) ⟨congrArg (fun z => some (Value.int z)) (Eq.symm (Eq.trans (if_neg c_19) (if_neg c_35))), Eq.symm (Eq.trans (if_neg c_19) (if_neg c_35))⟩
    · skip
      refine g_aload_n h 0 dX6_lineAt_38 rfl rfl ?_
      refine g_iconst (v := nI 2) h dX6_lineAt_39 (by decide) ?_
      refine g_callV (As := [.int (nI 2)]) (C := RX6) h 1 (c_X6_fail l E _ 2) rfl gX6_lineAt_X6_fail rfl rfl rfl rfl (by decide +kernel) ⟨Nat.le_of_ble_eq_true rfl, Nat.le_of_ble_eq_true rfl⟩ (wat_M E _) rfl rfl dX6_lineAt_40 ⟨Nat.le_refl _, Nat.le_refl _⟩ (Nat.le_of_ble_eq_true rfl) ?_
      rintro _ _ ⟨rfl, hy⟩
      obtain rfl := hy.symm
      dsimp only [Option.toList, List.cons_append, List.nil_append]
      refine g_goto h 47 dX6_lineAt_43 (by decide) ?_
      exact g_iret h hr hk dX6_lineAt_47 (Nat.zero_le _) (Nat.zero_le _) ⟨congrArg (fun z => some (Value.int z)) (Eq.symm (Eq.trans (if_neg c_19) (if_pos c_35))), Eq.symm (Eq.trans (if_neg c_19) (if_pos c_35))⟩
def s_X6_lineAt_bc (x : St) (a : Int32) (b : Int32) : St :=
  let x1 := x.setFM 0 (nI 0)
  let x2 := s_X6_fail x1 (nI 1)
  x2
set_option maxRecDepth 100000 in
set_option maxHeartbeats 400000 in
theorem c_X6_lineAt_bc (l : Launch) (E : gE) (x : St) (a : Int32) (b : Int32) (ha : badC a) : Ct l yX6_lineAt wsX6_lineAt { frames := 2, cells := 0, slots := 0, locals := 46 } E [.ref (aM E), .int a, .int b] x (fun v y => v = some (.int (nI 0)) ∧ y = s_X6_lineAt_bc x a b) 0 0 := by
  refine Ct.of (cc := cX6_lineAt) (nL := 4) (ret := (some .int)) (by decide) rfl (Nat.le_of_ble_eq_true rfl) ?_
  intro p e s m args below meth c h hr hk hname
  refine g_lvs (lv' := [(0, _), (1, _), (2, _)]) rfl ?_
  refine g_aload_n h 0 dX6_lineAt_0 rfl rfl ?_
  refine g_iconst (v := nI 0) h dX6_lineAt_1 (by decide) ?_
  refine g_put (C := RX6) (T := TX6) (N := 29) h 0 tyX6 (ws_M0 E _ _) rfl in_X6_lineAt_X6 tyX6_ok nmX6 (by decide) lk_X6_lineAt_83 rfl rfl rfl rfl rfl (Nat.le_of_ble_eq_true rfl) dX6_lineAt_2 ?_
  refine g_iload_n h 1 dX6_lineAt_5 rfl rfl ?_
  refine g_callS (As := [.int _]) h 1 (c_X6_isCache_f l E _ a ha) rfl gX6_lineAt_X6_isCache rfl rfl rfl rfl (by decide +kernel) ⟨Nat.le_of_ble_eq_true rfl, Nat.le_of_ble_eq_true rfl⟩ dX6_lineAt_6 ⟨Nat.le_refl _, Nat.le_refl _⟩ (Nat.le_of_ble_eq_true rfl) ?_
  rintro _ _ ⟨rfl, hy⟩
  obtain rfl := hy.symm
  dsimp only [Option.toList, List.cons_append, List.nil_append]
  refine g_if_ne h 18 dX6_lineAt_9 (by decide) (fun c_9 => absurd c_9 (by decide)) (fun c_9 => ?_)
  refine g_aload_n h 0 dX6_lineAt_12 rfl rfl ?_
  refine g_iconst (v := nI 1) h dX6_lineAt_13 (by decide) ?_
  refine g_callV (As := [.int (nI 1)]) (C := RX6) h 1 (c_X6_fail l E _ 1) rfl gX6_lineAt_X6_fail rfl rfl rfl rfl (by decide +kernel) ⟨Nat.le_of_ble_eq_true rfl, Nat.le_of_ble_eq_true rfl⟩ (wat_M E _) rfl rfl dX6_lineAt_14 ⟨Nat.le_refl _, Nat.le_refl _⟩ (Nat.le_of_ble_eq_true rfl) ?_
  rintro _ _ ⟨rfl, hy⟩
  obtain rfl := hy.symm
  dsimp only [Option.toList, List.cons_append, List.nil_append]
  exact g_iret h hr hk dX6_lineAt_17 (Nat.zero_le _) (Nat.zero_le _) ⟨rfl, Eq.symm rfl⟩
theorem in_X6_messageCount_X6 : ∀ w ∈ wsX60, w ∈ wsX6_messageCount := by decide +kernel
theorem lk_X6_messageCount_83 : Cond.fieldLink RX6 83 "CacheDirectoryModel" "thrown" "I" ∈ wsX6_messageCount := by decide +kernel
theorem lk_X6_messageCount_94 : Cond.fieldLink RX6 94 "CacheDirectoryModel" "sent" "I" ∈ wsX6_messageCount := by decide +kernel
def r_X6_messageCount (x : St)  : Int32 :=
  let x1 := x.setFM 0 (nI 0)
  x1.FM 4
def s_X6_messageCount (x : St)  : St :=
  let x1 := x.setFM 0 (nI 0)
  x1
set_option maxRecDepth 100000 in
set_option maxHeartbeats 400000 in
theorem c_X6_messageCount (l : Launch) (E : gE) (x : St)   : Ct l yX6_messageCount wsX6_messageCount { frames := 0, cells := 0, slots := 0, locals := 0 } E [.ref (aM E)] x (fun v y => v = some (.int (r_X6_messageCount x )) ∧ y = s_X6_messageCount x ) 0 0 := by
  refine Ct.of (cc := cX6_messageCount) (nL := 1) (ret := (some .int)) (by decide) rfl (Nat.le_of_ble_eq_true rfl) ?_
  intro p e s m args below meth c h hr hk hname
  refine g_lvs (lv' := [(0, _)]) rfl ?_
  refine g_aload_n h 0 dX6_messageCount_0 rfl rfl ?_
  refine g_iconst (v := nI 0) h dX6_messageCount_1 (by decide) ?_
  refine g_put (C := RX6) (T := TX6) (N := 29) h 0 tyX6 (ws_M0 E _ _) rfl in_X6_messageCount_X6 tyX6_ok nmX6 (by decide) lk_X6_messageCount_83 rfl rfl rfl rfl rfl (Nat.le_of_ble_eq_true rfl) dX6_messageCount_2 ?_
  refine g_aload_n h 0 dX6_messageCount_5 rfl rfl ?_
  refine g_get (C := RX6) (T := TX6) (N := 29) h 27 (wat_M E _) rfl in_X6_messageCount_X6 (by decide) lk_X6_messageCount_94 rfl rfl dX6_messageCount_6 ?_
  exact g_iret h hr hk dX6_messageCount_9 (Nat.zero_le _) (Nat.zero_le _) ⟨congrArg (fun z => some (Value.int z)) (Eq.symm rfl), Eq.symm rfl⟩
theorem in_X6_writebacks_X6 : ∀ w ∈ wsX60, w ∈ wsX6_writebacks := by decide +kernel
theorem lk_X6_writebacks_83 : Cond.fieldLink RX6 83 "CacheDirectoryModel" "thrown" "I" ∈ wsX6_writebacks := by decide +kernel
theorem lk_X6_writebacks_167 : Cond.fieldLink RX6 167 "CacheDirectoryModel" "writebacks" "I" ∈ wsX6_writebacks := by decide +kernel
def r_X6_writebacks (x : St)  : Int32 :=
  let x1 := x.setFM 0 (nI 0)
  x1.FM 2
def s_X6_writebacks (x : St)  : St :=
  let x1 := x.setFM 0 (nI 0)
  x1
set_option maxRecDepth 100000 in
set_option maxHeartbeats 400000 in
theorem c_X6_writebacks (l : Launch) (E : gE) (x : St)   : Ct l yX6_writebacks wsX6_writebacks { frames := 0, cells := 0, slots := 0, locals := 0 } E [.ref (aM E)] x (fun v y => v = some (.int (r_X6_writebacks x )) ∧ y = s_X6_writebacks x ) 0 0 := by
  refine Ct.of (cc := cX6_writebacks) (nL := 1) (ret := (some .int)) (by decide) rfl (Nat.le_of_ble_eq_true rfl) ?_
  intro p e s m args below meth c h hr hk hname
  refine g_lvs (lv' := [(0, _)]) rfl ?_
  refine g_aload_n h 0 dX6_writebacks_0 rfl rfl ?_
  refine g_iconst (v := nI 0) h dX6_writebacks_1 (by decide) ?_
  refine g_put (C := RX6) (T := TX6) (N := 29) h 0 tyX6 (ws_M0 E _ _) rfl in_X6_writebacks_X6 tyX6_ok nmX6 (by decide) lk_X6_writebacks_83 rfl rfl rfl rfl rfl (Nat.le_of_ble_eq_true rfl) dX6_writebacks_2 ?_
  refine g_aload_n h 0 dX6_writebacks_5 rfl rfl ?_
  refine g_get (C := RX6) (T := TX6) (N := 29) h 24 (wat_M E _) rfl in_X6_writebacks_X6 (by decide) lk_X6_writebacks_167 rfl rfl dX6_writebacks_6 ?_
  exact g_iret h hr hk dX6_writebacks_9 (Nat.zero_le _) (Nat.zero_le _) ⟨congrArg (fun z => some (Value.int z)) (Eq.symm rfl), Eq.symm rfl⟩
theorem in_X6_lateWritebacks_X6 : ∀ w ∈ wsX60, w ∈ wsX6_lateWritebacks := by decide +kernel
theorem lk_X6_lateWritebacks_83 : Cond.fieldLink RX6 83 "CacheDirectoryModel" "thrown" "I" ∈ wsX6_lateWritebacks := by decide +kernel
theorem lk_X6_lateWritebacks_170 : Cond.fieldLink RX6 170 "CacheDirectoryModel" "late" "I" ∈ wsX6_lateWritebacks := by decide +kernel
def r_X6_lateWritebacks (x : St)  : Int32 :=
  let x1 := x.setFM 0 (nI 0)
  x1.FM 3
def s_X6_lateWritebacks (x : St)  : St :=
  let x1 := x.setFM 0 (nI 0)
  x1
set_option maxRecDepth 100000 in
set_option maxHeartbeats 400000 in
theorem c_X6_lateWritebacks (l : Launch) (E : gE) (x : St)   : Ct l yX6_lateWritebacks wsX6_lateWritebacks { frames := 0, cells := 0, slots := 0, locals := 0 } E [.ref (aM E)] x (fun v y => v = some (.int (r_X6_lateWritebacks x )) ∧ y = s_X6_lateWritebacks x ) 0 0 := by
  refine Ct.of (cc := cX6_lateWritebacks) (nL := 1) (ret := (some .int)) (by decide) rfl (Nat.le_of_ble_eq_true rfl) ?_
  intro p e s m args below meth c h hr hk hname
  refine g_lvs (lv' := [(0, _)]) rfl ?_
  refine g_aload_n h 0 dX6_lateWritebacks_0 rfl rfl ?_
  refine g_iconst (v := nI 0) h dX6_lateWritebacks_1 (by decide) ?_
  refine g_put (C := RX6) (T := TX6) (N := 29) h 0 tyX6 (ws_M0 E _ _) rfl in_X6_lateWritebacks_X6 tyX6_ok nmX6 (by decide) lk_X6_lateWritebacks_83 rfl rfl rfl rfl rfl (Nat.le_of_ble_eq_true rfl) dX6_lateWritebacks_2 ?_
  refine g_aload_n h 0 dX6_lateWritebacks_5 rfl rfl ?_
  refine g_get (C := RX6) (T := TX6) (N := 29) h 25 (wat_M E _) rfl in_X6_lateWritebacks_X6 (by decide) lk_X6_lateWritebacks_170 rfl rfl dX6_lateWritebacks_6 ?_
  exact g_iret h hr hk dX6_lateWritebacks_9 (Nat.zero_le _) (Nat.zero_le _) ⟨congrArg (fun z => some (Value.int z)) (Eq.symm rfl), Eq.symm rfl⟩
