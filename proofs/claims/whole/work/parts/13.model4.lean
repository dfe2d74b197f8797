theorem AM_ne {x : St} {r q : Nat} {f : Nat → Int32} (h : q ≠ r) : (x.setAM r f).AM q = x.AM q := by rw [St.AM_setAM, va_up_ne _ _ h]
theorem AM_eq {x : St} {r : Nat} {f : Nat → Int32} : (x.setAM r f).AM r = f := by rw [St.AM_setAM, va_up_self]
theorem FM_ne {x : St} {r q : Nat} {v : Int32} (h : q ≠ r) : (x.setFM r v).FM q = x.FM q := by rw [St.FM_setFM, va_up_ne _ _ h]
theorem FM_eq {x : St} {r : Nat} {v : Int32} : (x.setFM r v).FM r = v := by rw [St.FM_setFM, va_up_self]
theorem send_AM {x : St} {q : Nat} {a1 a2 a3 a4 a5 a6 a7 : Int32} (h : q ≠ 22) : (s_X6_send x a1 a2 a3 a4 a5 a6 a7).AM q = x.AM q := by
  simp only [s_X6_send, St.AM_setFM, AM_ne h]
theorem sOK_FM4 {x y : St} {k : Nat} (h : y.FM 4 = x.FM 4) (hx : sOK x k) : sOK y k := by
  unfold sOK at hx ⊢
  rw [h]
  exact hx
theorem sOK_use {x : St} {i j k : Nat} (h : sOK x k) : sOK (s_X6_use x i j) k := sOK_AM (sOK_FM (by decide) h)
theorem in_X6_complete_X6 : ∀ w ∈ wsX60, w ∈ wsX6_complete := by decide +kernel
theorem lk_X6_complete_47 : Cond.fieldLink RX6 47 "CacheDirectoryModel" "isAnswered" "[Z" ∈ wsX6_complete := by decide +kernel
theorem lk_X6_complete_56 : Cond.fieldLink RX6 56 "CacheDirectoryModel" "got" "[I" ∈ wsX6_complete := by decide +kernel
theorem lk_X6_complete_53 : Cond.fieldLink RX6 53 "CacheDirectoryModel" "needed" "[I" ∈ wsX6_complete := by decide +kernel
theorem lk_X6_complete_37 : Cond.fieldLink RX6 37 "CacheDirectoryModel" "openLines" "[I" ∈ wsX6_complete := by decide +kernel
theorem lk_X6_complete_16 : Cond.fieldLink RX6 16 "CacheDirectoryModel" "states" "[I" ∈ wsX6_complete := by decide +kernel
theorem lk_X6_complete_40 : Cond.fieldLink RX6 40 "CacheDirectoryModel" "isWriting" "[Z" ∈ wsX6_complete := by decide +kernel
theorem lk_X6_complete_19 : Cond.fieldLink RX6 19 "CacheDirectoryModel" "values" "[I" ∈ wsX6_complete := by decide +kernel
theorem lk_X6_complete_50 : Cond.fieldLink RX6 50 "CacheDirectoryModel" "answers" "[I" ∈ wsX6_complete := by decide +kernel
theorem lk_X6_complete_34 : Cond.fieldLink RX6 34 "CacheDirectoryModel" "latest" "[I" ∈ wsX6_complete := by decide +kernel
theorem lk_X6_complete_44 : Cond.fieldLink RX6 44 "CacheDirectoryModel" "toWrite" "[I" ∈ wsX6_complete := by decide +kernel
def s_X6_complete (x : St) (i : Nat) : St :=
  if (x.AM 12 i) = 0 then
    x
  else
    if (x.AM 15 i) = (x.AM 14 i) then
      if (x.AM 10 i) = 0 then
        let x1 := x.setAM 2 (upd (x.AM 2) (16 * i + (nat (x.AM 9 i))) (nI 1))
        if (x1.AM 10 i) = 0 then
          let x2 := x1.setAM 3 (upd (x1.AM 3) (16 * i + (nat (x.AM 9 i))) (x1.AM 13 i))
          if (x2.AM 10 i) = 0 then
            let x7 := x2.setAM 8 (upd (x2.AM 8) i (x2.AM 13 i))
            let x8 := s_X6_use x7 i (nat (x.AM 9 i))
            let x9 := x8.setAM 9 (upd (x8.AM 9) i ((-1 : Int32)))
            let x10 := x9.setAM 12 (upd (x9.AM 12) i (vp_nar .boolean (nI 0)))
            let x11 := s_X6_send x10 (nI 4) (nI (nat (x.AM 9 i))) (nI i) ((-1 : Int32)) (nI 0) (nI 0) ((-1 : Int32))
            x11
          else
            let x3 := s_X6_use x2 i (nat (x.AM 9 i))
            let x4 := x3.setAM 9 (upd (x3.AM 9) i ((-1 : Int32)))
            let x5 := x4.setAM 12 (upd (x4.AM 12) i (vp_nar .boolean (nI 0)))
            let x6 := s_X6_send x5 (nI 4) (nI (nat (x.AM 9 i))) (nI i) ((-1 : Int32)) (nI 0) (nI 0) ((-1 : Int32))
            x6
        else
          let x12 := x1.setAM 3 (upd (x1.AM 3) (16 * i + (nat (x.AM 9 i))) (x1.AM 11 i))
          if (x12.AM 10 i) = 0 then
            let x17 := x12.setAM 8 (upd (x12.AM 8) i (x12.AM 13 i))
            let x18 := s_X6_use x17 i (nat (x.AM 9 i))
            let x19 := x18.setAM 9 (upd (x18.AM 9) i ((-1 : Int32)))
            let x20 := x19.setAM 12 (upd (x19.AM 12) i (vp_nar .boolean (nI 0)))
            let x21 := s_X6_send x20 (nI 4) (nI (nat (x.AM 9 i))) (nI i) ((-1 : Int32)) (nI 0) (nI 0) ((-1 : Int32))
            x21
          else
            let x13 := s_X6_use x12 i (nat (x.AM 9 i))
            let x14 := x13.setAM 9 (upd (x13.AM 9) i ((-1 : Int32)))
            let x15 := x14.setAM 12 (upd (x14.AM 12) i (vp_nar .boolean (nI 0)))
            let x16 := s_X6_send x15 (nI 4) (nI (nat (x.AM 9 i))) (nI i) ((-1 : Int32)) (nI 0) (nI 0) ((-1 : Int32))
            x16
      else
        let x22 := x.setAM 2 (upd (x.AM 2) (16 * i + (nat (x.AM 9 i))) (nI 3))
        if (x22.AM 10 i) = 0 then
          let x23 := x22.setAM 3 (upd (x22.AM 3) (16 * i + (nat (x.AM 9 i))) (x22.AM 13 i))
          if (x23.AM 10 i) = 0 then
            let x28 := x23.setAM 8 (upd (x23.AM 8) i (x23.AM 13 i))
            let x29 := s_X6_use x28 i (nat (x.AM 9 i))
            let x30 := x29.setAM 9 (upd (x29.AM 9) i ((-1 : Int32)))
            let x31 := x30.setAM 12 (upd (x30.AM 12) i (vp_nar .boolean (nI 0)))
            let x32 := s_X6_send x31 (nI 4) (nI (nat (x.AM 9 i))) (nI i) ((-1 : Int32)) (nI 0) (nI 0) ((-1 : Int32))
            x32
          else
            let x24 := s_X6_use x23 i (nat (x.AM 9 i))
            let x25 := x24.setAM 9 (upd (x24.AM 9) i ((-1 : Int32)))
            let x26 := x25.setAM 12 (upd (x25.AM 12) i (vp_nar .boolean (nI 0)))
            let x27 := s_X6_send x26 (nI 4) (nI (nat (x.AM 9 i))) (nI i) ((-1 : Int32)) (nI 0) (nI 0) ((-1 : Int32))
            x27
        else
          let x33 := x22.setAM 3 (upd (x22.AM 3) (16 * i + (nat (x.AM 9 i))) (x22.AM 11 i))
          if (x33.AM 10 i) = 0 then
            let x38 := x33.setAM 8 (upd (x33.AM 8) i (x33.AM 13 i))
            let x39 := s_X6_use x38 i (nat (x.AM 9 i))
            let x40 := x39.setAM 9 (upd (x39.AM 9) i ((-1 : Int32)))
            let x41 := x40.setAM 12 (upd (x40.AM 12) i (vp_nar .boolean (nI 0)))
            let x42 := s_X6_send x41 (nI 4) (nI (nat (x.AM 9 i))) (nI i) ((-1 : Int32)) (nI 0) (nI 0) ((-1 : Int32))
            x42
          else
            let x34 := s_X6_use x33 i (nat (x.AM 9 i))
            let x35 := x34.setAM 9 (upd (x34.AM 9) i ((-1 : Int32)))
            let x36 := x35.setAM 12 (upd (x35.AM 12) i (vp_nar .boolean (nI 0)))
            let x37 := s_X6_send x36 (nI 4) (nI (nat (x.AM 9 i))) (nI i) ((-1 : Int32)) (nI 0) (nI 0) ((-1 : Int32))
            x37
    else
      x
set_option maxRecDepth 100000 in
set_option maxHeartbeats 400000 in
theorem c_X6_complete (l : Launch) (E : gE) (x : St) (i : Nat) (hi : i < 4) (hs : sOK x 1) (ho : x.AM 9 i = nI (nat (x.AM 9 i)) ∧ nat (x.AM 9 i) < 16) : Ct l yX6_complete wsX6_complete { frames := 2, cells := 0, slots := 0, locals := 43 } E [.ref (aM E), .int (nI i)] x (fun v y => v = none ∧ y = s_X6_complete x i) 0 0 := by
  refine Ct.of (cc := cX6_complete) (nL := 3) (ret := none) (by decide) rfl (Nat.le_of_ble_eq_true rfl) ?_
  intro p e s m args below meth c h hr hk hname
  refine g_lvs (lv' := [(0, _), (1, _)]) rfl ?_
  have ho2 := ho.2
  refine g_aload_n h 0 dX6_complete_0 rfl rfl ?_
  refine g_get (C := RX6) (T := TX6) (N := 29) h 14 (wat_M E _) rfl in_X6_complete_X6 (by decide) lk_X6_complete_47 rfl rfl dX6_complete_1 ?_
  refine g_iload_n h 1 dX6_complete_4 rfl rfl ?_
  refine g_zald (n := 4) h (wat_Y E _ (i := 12) (by decide)) (by omega) (by decide) dX6_complete_5 ?_
  refine g_if_eq h 24 dX6_complete_6 (by decide) (fun c_6 => ?_) (fun c_6 => ?_)
  · skip
    exact g_vret h hr hk dX6_complete_24 (Nat.zero_le _) (Nat.zero_le _) ⟨rfl, Eq.symm (if_pos c_6)⟩
  · skip
    refine g_aload_n h 0 dX6_complete_9 rfl rfl ?_
    refine g_get (C := RX6) (T := TX6) (N := 29) h 17 (wat_M E _) rfl in_X6_complete_X6 (by decide) lk_X6_complete_56 rfl rfl dX6_complete_10 ?_
    refine g_iload_n h 1 dX6_complete_13 rfl rfl ?_
    refine g_iald (n := 4) h (wat_Y E _ (i := 15) (by decide)) (by omega) (by decide) dX6_complete_14 ?_
    refine g_aload_n h 0 dX6_complete_15 rfl rfl ?_
    refine g_get (C := RX6) (T := TX6) (N := 29) h 16 (wat_M E _) rfl in_X6_complete_X6 (by decide) lk_X6_complete_53 rfl rfl dX6_complete_16 ?_
    refine g_iload_n h 1 dX6_complete_19 rfl rfl ?_
    refine g_iald (n := 4) h (wat_Y E _ (i := 14) (by decide)) (by omega) (by decide) dX6_complete_20 ?_
    refine g_icmp_eq h 25 dX6_complete_21 (by decide) (fun c_21 => ?_) (fun c_21 => ?_)
    · skip
      refine g_aload_n h 0 dX6_complete_25 rfl rfl ?_
      refine g_get (C := RX6) (T := TX6) (N := 29) h 11 (wat_M E _) rfl in_X6_complete_X6 (by decide) lk_X6_complete_37 rfl rfl dX6_complete_26 ?_
      refine g_iload_n h 1 dX6_complete_29 rfl rfl ?_
      refine g_iald (n := 4) h (wat_Y E _ (i := 9) (by decide)) (by omega) (by decide) dX6_complete_30 ?_
      refine g_eqi ho.1 ?_
      refine g_istore_n (lv' := [(0, _), (1, _), (2, _)]) h [1, 2, 0] dX6_complete_31 rfl (by decide) rfl ?_
      refine g_aload_n h 0 dX6_complete_32 rfl rfl ?_
      refine g_get (C := RX6) (T := TX6) (N := 29) h 3 (wat_M E _) rfl in_X6_complete_X6 (by decide) lk_X6_complete_16 rfl rfl dX6_complete_33 ?_
      refine g_iload_n h 1 dX6_complete_36 rfl rfl ?_
      refine g_iload_n h 2 dX6_complete_37 rfl rfl ?_
      refine g_callS (As := [.int (nI i), .int (nI (nat (x.AM 9 i)))]) h 2 (c_X6_at l E _ i (nat (x.AM 9 i)) (by omega) (by omega)) rfl gX6_complete_X6_at rfl rfl rfl rfl (by decide +kernel) ⟨Nat.le_of_ble_eq_true rfl, Nat.le_of_ble_eq_true rfl⟩ dX6_complete_38 ⟨Nat.le_refl _, Nat.le_refl _⟩ (Nat.le_of_ble_eq_true rfl) ?_
      rintro _ _ ⟨rfl, hy⟩
      obtain rfl := hy.symm
      dsimp only [Option.toList, List.cons_append, List.nil_append]
      refine g_aload_n h 0 dX6_complete_41 rfl rfl ?_
      refine g_get (C := RX6) (T := TX6) (N := 29) h 12 (wat_M E _) rfl in_X6_complete_X6 (by decide) lk_X6_complete_40 rfl rfl dX6_complete_42 ?_
      refine g_iload_n h 1 dX6_complete_45 rfl rfl ?_
      refine g_zald (n := 4) h (wat_Y E _ (i := 10) (by decide)) (by omega) (by decide) dX6_complete_46 ?_
      refine g_if_eq h 54 dX6_complete_47 (by decide) (fun c_47 => ?_) (fun c_47 => ?_)
      · skip
        refine g_iconst (v := nI 1) h dX6_complete_54 (by decide) ?_
        refine g_iast (n := 64) h (ws_Y E _ (i := 2) (by decide) _) (by omega) (by decide) dX6_complete_55 ?_
        refine g_aload_n h 0 dX6_complete_56 rfl rfl ?_
        refine g_get (C := RX6) (T := TX6) (N := 29) h 4 (wat_M E _) rfl in_X6_complete_X6 (by decide) lk_X6_complete_19 rfl rfl dX6_complete_57 ?_
        refine g_iload_n h 1 dX6_complete_60 rfl rfl ?_
        refine g_iload_n h 2 dX6_complete_61 rfl rfl ?_
        refine g_callS (As := [.int (nI i), .int (nI (nat (x.AM 9 i)))]) h 2 (c_X6_at l E _ i (nat (x.AM 9 i)) (by omega) (by omega)) rfl gX6_complete_X6_at rfl rfl rfl rfl (by decide +kernel) ⟨Nat.le_of_ble_eq_true rfl, Nat.le_of_ble_eq_true rfl⟩ dX6_complete_62 ⟨Nat.le_refl _, Nat.le_refl _⟩ (Nat.le_of_ble_eq_true rfl) ?_
        rintro _ _ ⟨rfl, hy⟩
        obtain rfl := hy.symm
        dsimp only [Option.toList, List.cons_append, List.nil_append]
        refine g_aload_n h 0 dX6_complete_65 rfl rfl ?_
        refine g_get (C := RX6) (T := TX6) (N := 29) h 12 (wat_M E _) rfl in_X6_complete_X6 (by decide) lk_X6_complete_40 rfl rfl dX6_complete_66 ?_
        refine g_iload_n h 1 dX6_complete_69 rfl rfl ?_
        refine g_zald (n := 4) h (wat_Y E _ (i := 10) (by decide)) (by omega) (by decide) dX6_complete_70 ?_
        refine g_if_eq h 83 dX6_complete_71 (by decide) (fun c_71 => ?_) (fun c_71 => ?_)
        · skip
          refine g_aload_n h 0 dX6_complete_83 rfl rfl ?_
          refine g_get (C := RX6) (T := TX6) (N := 29) h 15 (wat_M E _) rfl in_X6_complete_X6 (by decide) lk_X6_complete_50 rfl rfl dX6_complete_84 ?_
          refine g_iload_n h 1 dX6_complete_87 rfl rfl ?_
          refine g_iald (n := 4) h (wat_Y E _ (i := 13) (by decide)) (by omega) (by decide) dX6_complete_88 ?_
          refine g_iast (n := 64) h (ws_Y E _ (i := 3) (by decide) _) (by omega) (by decide) dX6_complete_89 ?_
          refine g_aload_n h 0 dX6_complete_90 rfl rfl ?_
          refine g_get (C := RX6) (T := TX6) (N := 29) h 12 (wat_M E _) rfl in_X6_complete_X6 (by decide) lk_X6_complete_40 rfl rfl dX6_complete_91 ?_
          refine g_iload_n h 1 dX6_complete_94 rfl rfl ?_
          refine g_zald (n := 4) h (wat_Y E _ (i := 10) (by decide)) (by omega) (by decide) dX6_complete_95 ?_
          refine g_if_ne h 111 dX6_complete_96 (by decide) (fun c_96 => ?_) (fun c_96 => ?_)
          · skip
            refine g_aload_n h 0 dX6_complete_111 rfl rfl ?_
            refine g_iload_n h 1 dX6_complete_112 rfl rfl ?_
            refine g_iload_n h 2 dX6_complete_113 rfl rfl ?_
            refine g_callV (As := [.int (nI i), .int (nI (nat (x.AM 9 i)))]) (C := RX6) h 2 (c_X6_use l E _ i (nat (x.AM 9 i)) (by omega) (by omega)) rfl gX6_complete_X6_use rfl rfl rfl rfl (by decide +kernel) ⟨Nat.le_of_ble_eq_true rfl, Nat.le_of_ble_eq_true rfl⟩ (wat_M E _) rfl rfl dX6_complete_114 ⟨Nat.le_refl _, Nat.le_refl _⟩ (Nat.le_of_ble_eq_true rfl) ?_
            rintro _ _ ⟨rfl, hy⟩
            obtain rfl := hy.symm
            dsimp only [Option.toList, List.cons_append, List.nil_append]
            refine g_aload_n h 0 dX6_complete_117 rfl rfl ?_
            refine g_get (C := RX6) (T := TX6) (N := 29) h 11 (wat_M E _) rfl in_X6_complete_X6 (by decide) lk_X6_complete_37 rfl rfl dX6_complete_118 ?_
            refine g_iload_n h 1 dX6_complete_121 rfl rfl ?_
            refine g_iconst (v := -1) h dX6_complete_122 (by decide) ?_
            refine g_iast (n := 4) h (ws_Y E _ (i := 9) (by decide) _) (by omega) (by decide) dX6_complete_123 ?_
            refine g_aload_n h 0 dX6_complete_124 rfl rfl ?_
            refine g_get (C := RX6) (T := TX6) (N := 29) h 14 (wat_M E _) rfl in_X6_complete_X6 (by decide) lk_X6_complete_47 rfl rfl dX6_complete_125 ?_
            refine g_iload_n h 1 dX6_complete_128 rfl rfl ?_
            refine g_iconst (v := nI 0) h dX6_complete_129 (by decide) ?_
            refine g_zast (n := 4) h (ws_Y E _ (i := 12) (by decide) _) (by omega) (by decide) dX6_complete_130 ?_
            refine g_aload_n h 0 dX6_complete_131 rfl rfl ?_
            refine g_iconst (v := nI 4) h dX6_complete_132 (by decide) ?_
            refine g_iload_n h 2 dX6_complete_133 rfl rfl ?_
            refine g_iload_n h 1 dX6_complete_134 rfl rfl ?_
            refine g_iconst (v := -1) h dX6_complete_135 (by decide) ?_
            refine g_iconst (v := nI 0) h dX6_complete_136 (by decide) ?_
            refine g_iconst (v := nI 0) h dX6_complete_137 (by decide) ?_
            refine g_iconst (v := -1) h dX6_complete_138 (by decide) ?_
            refine g_callV (As := [.int (nI 4), .int (nI (nat (x.AM 9 i))), .int (nI i), .int _, .int (nI 0), .int (nI 0), .int _]) (C := RX6) h 7 (c_X6_send l E _ _ _ _ _ _ _ _ (sOK.mono ((sOK_AM (sOK_AM (sOK_use (sOK_AM (sOK_AM hs)))))) (by omega))) rfl gX6_complete_X6_send rfl rfl rfl rfl (by decide +kernel) ⟨Nat.le_of_ble_eq_true rfl, Nat.le_of_ble_eq_true rfl⟩ (wat_M E _) rfl rfl dX6_complete_139 ⟨Nat.le_refl _, Nat.le_refl _⟩ (Nat.le_of_ble_eq_true rfl) ?_
            rintro _ _ ⟨rfl, hy⟩
            obtain rfl := hy.symm
            dsimp only [Option.toList, List.cons_append, List.nil_append]
            exact g_vret h hr hk dX6_complete_142 (Nat.zero_le _) (Nat.zero_le _) ⟨rfl, Eq.symm (Eq.trans (if_neg c_6) (Eq.trans (if_pos c_21) (Eq.trans (if_pos c_47) (Eq.trans (if_pos c_71) (if_neg c_96)))))⟩
          · skip
            refine g_aload_n h 0 dX6_complete_99 rfl rfl ?_
            refine g_get (C := RX6) (T := TX6) (N := 29) h 10 (wat_M E _) rfl in_X6_complete_X6 (by decide) lk_X6_complete_34 rfl rfl dX6_complete_100 ?_
            refine g_iload_n h 1 dX6_complete_103 rfl rfl ?_
            refine g_aload_n h 0 dX6_complete_104 rfl rfl ?_
            refine g_get (C := RX6) (T := TX6) (N := 29) h 15 (wat_M E _) rfl in_X6_complete_X6 (by decide) lk_X6_complete_50 rfl rfl dX6_complete_105 ?_
            refine g_iload_n h 1 dX6_complete_108 rfl rfl ?_
            refine g_iald (n := 4) h (wat_Y E _ (i := 13) (by decide)) (by omega) (by decide) dX6_complete_109 ?_
            refine g_iast (n := 4) h (ws_Y E _ (i := 8) (by decide) _) (by omega) (by decide) dX6_complete_110 ?_
            refine g_aload_n h 0 dX6_complete_111 rfl rfl ?_
            refine g_iload_n h 1 dX6_complete_112 rfl rfl ?_
            refine g_iload_n h 2 dX6_complete_113 rfl rfl ?_
            refine g_callV (As := [.int (nI i), .int (nI (nat (x.AM 9 i)))]) (C := RX6) h 2 (c_X6_use l E _ i (nat (x.AM 9 i)) (by omega) (by omega)) rfl gX6_complete_X6_use rfl rfl rfl rfl (by decide +kernel) ⟨Nat.le_of_ble_eq_true rfl, Nat.le_of_ble_eq_true rfl⟩ (wat_M E _) rfl rfl dX6_complete_114 ⟨Nat.le_refl _, Nat.le_refl _⟩ (Nat.le_of_ble_eq_true rfl) ?_
            rintro _ _ ⟨rfl, hy⟩
            obtain rfl := hy.symm
            dsimp only [Option.toList, List.cons_append, List.nil_append]
            refine g_aload_n h 0 dX6_complete_117 rfl rfl ?_
            refine g_get (C := RX6) (T := TX6) (N := 29) h 11 (wat_M E _) rfl in_X6_complete_X6 (by decide) lk_X6_complete_37 rfl rfl dX6_complete_118 ?_
            refine g_iload_n h 1 dX6_complete_121 rfl rfl ?_
            refine g_iconst (v := -1) h dX6_complete_122 (by decide) ?_
            refine g_iast (n := 4) h (ws_Y E _ (i := 9) (by decide) _) (by omega) (by decide) dX6_complete_123 ?_
            refine g_aload_n h 0 dX6_complete_124 rfl rfl ?_
            refine g_get (C := RX6) (T := TX6) (N := 29) h 14 (wat_M E _) rfl in_X6_complete_X6 (by decide) lk_X6_complete_47 rfl rfl dX6_complete_125 ?_
            refine g_iload_n h 1 dX6_complete_128 rfl rfl ?_
            refine g_iconst (v := nI 0) h dX6_complete_129 (by decide) ?_
            refine g_zast (n := 4) h (ws_Y E _ (i := 12) (by decide) _) (by omega) (by decide) dX6_complete_130 ?_
            refine g_aload_n h 0 dX6_complete_131 rfl rfl ?_
            refine g_iconst (v := nI 4) h dX6_complete_132 (by decide) ?_
            refine g_iload_n h 2 dX6_complete_133 rfl rfl ?_
            refine g_iload_n h 1 dX6_complete_134 rfl rfl ?_
            refine g_iconst (v := -1) h dX6_complete_135 (by decide) ?_
            refine g_iconst (v := nI 0) h dX6_complete_136 (by decide) ?_
            refine g_iconst (v := nI 0) h dX6_complete_137 (by decide) ?_
            refine g_iconst (v := -1) h dX6_complete_138 (by decide) ?_
            refine g_callV (As := [.int (nI 4), .int (nI (nat (x.AM 9 i))), .int (nI i), .int _, .int (nI 0), .int (nI 0), .int _]) (C := RX6) h 7 (c_X6_send l E _ _ _ _ _ _ _ _ (sOK.mono ((sOK_AM (sOK_AM (sOK_use (sOK_AM (sOK_AM (sOK_AM hs))))))) (by omega))) rfl gX6_complete_X6_send rfl rfl rfl rfl (by decide +kernel) ⟨Nat.le_of_ble_eq_true rfl, Nat.le_of_ble_eq_true rfl⟩ (wat_M E _) rfl rfl dX6_complete_139 ⟨Nat.le_refl _, Nat.le_refl _⟩ (Nat.le_of_ble_eq_true rfl) ?_
            rintro _ _ ⟨rfl, hy⟩
            obtain rfl := hy.symm
            dsimp only [Option.toList, List.cons_append, List.nil_append]
            exact g_vret h hr hk dX6_complete_142 (Nat.zero_le _) (Nat.zero_le _) ⟨rfl, Eq.symm (Eq.trans (if_neg c_6) (Eq.trans (if_pos c_21) (Eq.trans (if_pos c_47) (Eq.trans (if_pos c_71) (if_pos c_96)))))⟩
        · skip
          refine g_aload_n h 0 dX6_complete_74 rfl rfl ?_
          refine g_get (C := RX6) (T := TX6) (N := 29) h 13 (wat_M E _) rfl in_X6_complete_X6 (by decide) lk_X6_complete_44 rfl rfl dX6_complete_75 ?_
          refine g_iload_n h 1 dX6_complete_78 rfl rfl ?_
          refine g_iald (n := 4) h (wat_Y E _ (i := 11) (by decide)) (by omega) (by decide) dX6_complete_79 ?_
          refine g_goto h 89 dX6_complete_80 (by decide) ?_
          refine g_iast (n := 64) h (ws_Y E _ (i := 3) (by decide) _) (by omega) (by decide) dX6_complete_89 ?_
          refine g_aload_n h 0 dX6_complete_90 rfl rfl ?_
          refine g_get (C := RX6) (T := TX6) (N := 29) h 12 (wat_M E _) rfl in_X6_complete_X6 (by decide) lk_X6_complete_40 rfl rfl dX6_complete_91 ?_
          refine g_iload_n h 1 dX6_complete_94 rfl rfl ?_
          refine g_zald (n := 4) h (wat_Y E _ (i := 10) (by decide)) (by omega) (by decide) dX6_complete_95 ?_
          refine g_if_ne h 111 dX6_complete_96 (by decide) (fun c_96 => ?_) (fun c_96 => ?_)
          · skip
            refine g_aload_n h 0 dX6_complete_111 rfl rfl ?_
            refine g_iload_n h 1 dX6_complete_112 rfl rfl ?_
            refine g_iload_n h 2 dX6_complete_113 rfl rfl ?_
            refine g_callV (As := [.int (nI i), .int (nI (nat (x.AM 9 i)))]) (C := RX6) h 2 (c_X6_use l E _ i (nat (x.AM 9 i)) (by omega) (by omega)) rfl gX6_complete_X6_use rfl rfl rfl rfl (by decide +kernel) ⟨Nat.le_of_ble_eq_true rfl, Nat.le_of_ble_eq_true rfl⟩ (wat_M E _) rfl rfl dX6_complete_114 ⟨Nat.le_refl _, Nat.le_refl _⟩ (Nat.le_of_ble_eq_true rfl) ?_
            rintro _ _ ⟨rfl, hy⟩
            obtain rfl := hy.symm
            dsimp only [Option.toList, List.cons_append, List.nil_append]
            refine g_aload_n h 0 dX6_complete_117 rfl rfl ?_
            refine g_get (C := RX6) (T := TX6) (N := 29) h 11 (wat_M E _) rfl in_X6_complete_X6 (by decide) lk_X6_complete_37 rfl rfl dX6_complete_118 ?_
            refine g_iload_n h 1 dX6_complete_121 rfl rfl ?_
            refine g_iconst (v := -1) h dX6_complete_122 (by decide) ?_
            refine g_iast (n := 4) h (ws_Y E _ (i := 9) (by decide) _) (by omega) (by decide) dX6_complete_123 ?_
            refine g_aload_n h 0 dX6_complete_124 rfl rfl ?_
            refine g_get (C := RX6) (T := TX6) (N := 29) h 14 (wat_M E _) rfl in_X6_complete_X6 (by decide) lk_X6_complete_47 rfl rfl dX6_complete_125 ?_
            refine g_iload_n h 1 dX6_complete_128 rfl rfl ?_
            refine g_iconst (v := nI 0) h dX6_complete_129 (by decide) ?_
            refine g_zast (n := 4) h (ws_Y E _ (i := 12) (by decide) _) (by omega) (by decide) dX6_complete_130 ?_
            refine g_aload_n h 0 dX6_complete_131 rfl rfl ?_
            refine g_iconst (v := nI 4) h dX6_complete_132 (by decide) ?_
            refine g_iload_n h 2 dX6_complete_133 rfl rfl ?_
            refine g_iload_n h 1 dX6_complete_134 rfl rfl ?_
            refine g_iconst (v := -1) h dX6_complete_135 (by decide) ?_
            refine g_iconst (v := nI 0) h dX6_complete_136 (by decide) ?_
            refine g_iconst (v := nI 0) h dX6_complete_137 (by decide) ?_
            refine g_iconst (v := -1) h dX6_complete_138 (by decide) ?_
            refine g_callV (As := [.int (nI 4), .int (nI (nat (x.AM 9 i))), .int (nI i), .int _, .int (nI 0), .int (nI 0), .int _]) (C := RX6) h 7 (c_X6_send l E _ _ _ _ _ _ _ _ (sOK.mono ((sOK_AM (sOK_AM (sOK_use (sOK_AM (sOK_AM hs)))))) (by omega))) rfl gX6_complete_X6_send rfl rfl rfl rfl (by decide +kernel) ⟨Nat.le_of_ble_eq_true rfl, Nat.le_of_ble_eq_true rfl⟩ (wat_M E _) rfl rfl dX6_complete_139 ⟨Nat.le_refl _, Nat.le_refl _⟩ (Nat.le_of_ble_eq_true rfl) ?_
            rintro _ _ ⟨rfl, hy⟩
            obtain rfl := hy.symm
            dsimp only [Option.toList, List.cons_append, List.nil_append]
            exact g_vret h hr hk dX6_complete_142 (Nat.zero_le _) (Nat.zero_le _) ⟨rfl, Eq.symm (Eq.trans (if_neg c_6) (Eq.trans (if_pos c_21) (Eq.trans (if_pos c_47) (Eq.trans (if_neg c_71) (if_neg c_96)))))⟩
          · skip
            refine g_aload_n h 0 dX6_complete_99 rfl rfl ?_
            refine g_get (C := RX6) (T := TX6) (N := 29) h 10 (wat_M E _) rfl in_X6_complete_X6 (by decide) lk_X6_complete_34 rfl rfl dX6_complete_100 ?_
            refine g_iload_n h 1 dX6_complete_103 rfl rfl ?_
            refine g_aload_n h 0 dX6_complete_104 rfl rfl ?_
            refine g_get (C := RX6) (T := TX6) (N := 29) h 15 (wat_M E _) rfl in_X6_complete_X6 (by decide) lk_X6_complete_50 rfl rfl dX6_complete_105 ?_
            refine g_iload_n h 1 dX6_complete_108 rfl rfl ?_
            refine g_iald (n := 4) h (wat_Y E _ (i := 13) (by decide)) (by omega) (by decide) dX6_complete_109 ?_
            refine g_iast (n := 4) h (ws_Y E _ (i := 8) (by decide) _) (by omega) (by decide) dX6_complete_110 ?_
            refine g_aload_n h 0 dX6_complete_111 rfl rfl ?_
            refine g_iload_n h 1 dX6_complete_112 rfl rfl ?_
            refine g_iload_n h 2 dX6_complete_113 rfl rfl ?_
            refine g_callV (As := [.int (nI i), .int (nI (nat (x.AM 9 i)))]) (C := RX6) h 2 (c_X6_use l E _ i (nat (x.AM 9 i)) (by omega) (by omega)) rfl gX6_complete_X6_use rfl rfl rfl rfl (by decide +kernel) ⟨Nat.le_of_ble_eq_true rfl, Nat.le_of_ble_eq_true rfl⟩ (wat_M E _) rfl rfl dX6_complete_114 ⟨Nat.le_refl _, Nat.le_refl _⟩ (Nat.le_of_ble_eq_true rfl) ?_
            rintro _ _ ⟨rfl, hy⟩
            obtain rfl := hy.symm
            dsimp only [Option.toList, List.cons_append, List.nil_append]
            refine g_aload_n h 0 dX6_complete_117 rfl rfl ?_
            refine g_get (C := RX6) (T := TX6) (N := 29) h 11 (wat_M E _) rfl in_X6_complete_X6 (by decide) lk_X6_complete_37 rfl rfl dX6_complete_118 ?_
            refine g_iload_n h 1 dX6_complete_121 rfl rfl ?_
            refine g_iconst (v := -1) h dX6_complete_122 (by decide) ?_
            refine g_iast (n := 4) h (ws_Y E _ (i := 9) (by decide) _) (by omega) (by decide) dX6_complete_123 ?_
            refine g_aload_n h 0 dX6_complete_124 rfl rfl ?_
            refine g_get (C := RX6) (T := TX6) (N := 29) h 14 (wat_M E _) rfl in_X6_complete_X6 (by decide) lk_X6_complete_47 rfl rfl dX6_complete_125 ?_
            refine g_iload_n h 1 dX6_complete_128 rfl rfl ?_
            refine g_iconst (v := nI 0) h dX6_complete_129 (by decide) ?_
            refine g_zast (n := 4) h (ws_Y E _ (i := 12) (by decide) _) (by omega) (by decide) dX6_complete_130 ?_
            refine g_aload_n h 0 dX6_complete_131 rfl rfl ?_
            refine g_iconst (v := nI 4) h dX6_complete_132 (by decide) ?_
            refine g_iload_n h 2 dX6_complete_133 rfl rfl ?_
            refine g_iload_n h 1 dX6_complete_134 rfl rfl ?_
            refine g_iconst (v := -1) h dX6_complete_135 (by decide) ?_
            refine g_iconst (v := nI 0) h dX6_complete_136 (by decide) ?_
            refine g_iconst (v := nI 0) h dX6_complete_137 (by decide) ?_
            refine g_iconst (v := -1) h dX6_complete_138 (by decide) ?_
            refine g_callV (As := [.int (nI 4), .int (nI (nat (x.AM 9 i))), .int (nI i), .int _, .int (nI 0), .int (nI 0), .int _]) (C := RX6) h 7 (c_X6_send l E _ _ _ _ _ _ _ _ (sOK.mono ((sOK_AM (sOK_AM (sOK_use (sOK_AM (sOK_AM (sOK_AM hs))))))) (by omega))) rfl gX6_complete_X6_send rfl rfl rfl rfl (by decide +kernel) ⟨Nat.le_of_ble_eq_true rfl, Nat.le_of_ble_eq_true rfl⟩ (wat_M E _) rfl rfl dX6_complete_139 ⟨Nat.le_refl _, Nat.le_refl _⟩ (Nat.le_of_ble_eq_true rfl) ?_
            rintro _ _ ⟨rfl, hy⟩
            obtain rfl := hy.symm
            dsimp only [Option.toList, List.cons_append, List.nil_append]
            exact g_vret h hr hk dX6_complete_142 (Nat.zero_le _) (Nat.zero_le _) ⟨rfl, Eq.symm (Eq.trans (if_neg c_6) (Eq.trans (if_pos c_21) (Eq.trans (if_pos c_47) (Eq.trans (if_neg c_71) (if_pos c_96)))))⟩
      · skip
        refine g_iconst (v := nI 3) h dX6_complete_50 (by decide) ?_
        refine g_goto h 55 dX6_complete_51 (by decide) ?_
        refine g_iast (n := 64) h (ws_Y E _ (i := 2) (by decide) _) (by omega) (by decide) dX6_complete_55 ?_
        refine g_aload_n h 0 dX6_complete_56 rfl rfl ?_
        refine g_get (C := RX6) (T := TX6) (N := 29) h 4 (wat_M E _) rfl in_X6_complete_X6 (by decide) lk_X6_complete_19 rfl rfl dX6_complete_57 ?_
        refine g_iload_n h 1 dX6_complete_60 rfl rfl ?_
        refine g_iload_n h 2 dX6_complete_61 rfl rfl ?_
        refine g_callS (As := [.int (nI i), .int (nI (nat (x.AM 9 i)))]) h 2 (c_X6_at l E _ i (nat (x.AM 9 i)) (by omega) (by omega)) rfl gX6_complete_X6_at rfl rfl rfl rfl (by decide +kernel) ⟨Nat.le_of_ble_eq_true rfl, Nat.le_of_ble_eq_true rfl⟩ dX6_complete_62 ⟨Nat.le_refl _, Nat.le_refl _⟩ (Nat.le_of_ble_eq_true rfl) ?_
        rintro _ _ ⟨rfl, hy⟩
        obtain rfl := hy.symm
        dsimp only [Option.toList, List.cons_append, List.nil_append]
        refine g_aload_n h 0 dX6_complete_65 rfl rfl ?_
        refine g_get (C := RX6) (T := TX6) (N := 29) h 12 (wat_M E _) rfl in_X6_complete_X6 (by decide) lk_X6_complete_40 rfl rfl dX6_complete_66 ?_
        refine g_iload_n h 1 dX6_complete_69 rfl rfl ?_
        refine g_zald (n := 4) h (wat_Y E _ (i := 10) (by decide)) (by omega) (by decide) dX6_complete_70 ?_
        refine g_if_eq h 83 dX6_complete_71 (by decide) (fun c_71 => ?_) (fun c_71 => ?_)
        · skip
          refine g_aload_n h 0 dX6_complete_83 rfl rfl ?_
          refine g_get (C := RX6) (T := TX6) (N := 29) h 15 (wat_M E _) rfl in_X6_complete_X6 (by decide) lk_X6_complete_50 rfl rfl dX6_complete_84 ?_
          refine g_iload_n h 1 dX6_complete_87 rfl rfl ?_
          refine g_iald (n := 4) h (wat_Y E _ (i := 13) (by decide)) (by omega) (by decide) dX6_complete_88 ?_
          refine g_iast (n := 64) h (ws_Y E _ (i := 3) (by decide) _) (by omega) (by decide) dX6_complete_89 ?_
          refine g_aload_n h 0 dX6_complete_90 rfl rfl ?_
          refine g_get (C := RX6) (T := TX6) (N := 29) h 12 (wat_M E _) rfl in_X6_complete_X6 (by decide) lk_X6_complete_40 rfl rfl dX6_complete_91 ?_
          refine g_iload_n h 1 dX6_complete_94 rfl rfl ?_
          refine g_zald (n := 4) h (wat_Y E _ (i := 10) (by decide)) (by omega) (by decide) dX6_complete_95 ?_
          refine g_if_ne h 111 dX6_complete_96 (by decide) (fun c_96 => ?_) (fun c_96 => ?_)
          · skip
            refine g_aload_n h 0 dX6_complete_111 rfl rfl ?_
            refine g_iload_n h 1 dX6_complete_112 rfl rfl ?_
            refine g_iload_n h 2 dX6_complete_113 rfl rfl ?_
            refine g_callV (As := [.int (nI i), .int (nI (nat (x.AM 9 i)))]) (C := RX6) h 2 (c_X6_use l E _ i (nat (x.AM 9 i)) (by omega) (by omega)) rfl gX6_complete_X6_use rfl rfl rfl rfl (by decide +kernel) ⟨Nat.le_of_ble_eq_true rfl, Nat.le_of_ble_eq_true rfl⟩ (wat_M E _) rfl rfl dX6_complete_114 ⟨Nat.le_refl _, Nat.le_refl _⟩ (Nat.le_of_ble_eq_true rfl) ?_
            rintro _ _ ⟨rfl, hy⟩
            obtain rfl := hy.symm
            dsimp only [Option.toList, List.cons_append, List.nil_append]
            refine g_aload_n h 0 dX6_complete_117 rfl rfl ?_
            refine g_get (C := RX6) (T := TX6) (N := 29) h 11 (wat_M E _) rfl in_X6_complete_X6 (by decide) lk_X6_complete_37 rfl rfl dX6_complete_118 ?_
            refine g_iload_n h 1 dX6_complete_121 rfl rfl ?_
            refine g_iconst (v := -1) h dX6_complete_122 (by decide) ?_
            refine g_iast (n := 4) h (ws_Y E _ (i := 9) (by decide) _) (by omega) (by decide) dX6_complete_123 ?_
            refine g_aload_n h 0 dX6_complete_124 rfl rfl ?_
            refine g_get (C := RX6) (T := TX6) (N := 29) h 14 (wat_M E _) rfl in_X6_complete_X6 (by decide) lk_X6_complete_47 rfl rfl dX6_complete_125 ?_
            refine g_iload_n h 1 dX6_complete_128 rfl rfl ?_
            refine g_iconst (v := nI 0) h dX6_complete_129 (by decide) ?_
            refine g_zast (n := 4) h (ws_Y E _ (i := 12) (by decide) _) (by omega) (by decide) dX6_complete_130 ?_
            refine g_aload_n h 0 dX6_complete_131 rfl rfl ?_
            refine g_iconst (v := nI 4) h dX6_complete_132 (by decide) ?_
            refine g_iload_n h 2 dX6_complete_133 rfl rfl ?_
            refine g_iload_n h 1 dX6_complete_134 rfl rfl ?_
            refine g_iconst (v := -1) h dX6_complete_135 (by decide) ?_
            refine g_iconst (v := nI 0) h dX6_complete_136 (by decide) ?_
            refine g_iconst (v := nI 0) h dX6_complete_137 (by decide) ?_
            refine g_iconst (v := -1) h dX6_complete_138 (by decide) ?_
            refine g_callV (As := [.int (nI 4), .int (nI (nat (x.AM 9 i))), .int (nI i), .int _, .int (nI 0), .int (nI 0), .int _]) (C := RX6) h 7 (c_X6_send l E _ _ _ _ _ _ _ _ (sOK.mono ((sOK_AM (sOK_AM (sOK_use (sOK_AM (sOK_AM hs)))))) (by omega))) rfl gX6_complete_X6_send rfl rfl rfl rfl (by decide +kernel) ⟨Nat.le_of_ble_eq_true rfl, Nat.le_of_ble_eq_true rfl⟩ (wat_M E _) rfl rfl dX6_complete_139 ⟨Nat.le_refl _, Nat.le_refl _⟩ (Nat.le_of_ble_eq_true rfl) ?_
            rintro _ _ ⟨rfl, hy⟩
            obtain rfl := hy.symm
            dsimp only [Option.toList, List.cons_append, List.nil_append]
            exact g_vret h hr hk dX6_complete_142 (Nat.zero_le _) (Nat.zero_le _) ⟨rfl, Eq.symm (Eq.trans (if_neg c_6) (Eq.trans (if_pos c_21) (Eq.trans (if_neg c_47) (Eq.trans (if_pos c_71) (if_neg c_96)))))⟩
          · skip
            refine g_aload_n h 0 dX6_complete_99 rfl rfl ?_
            refine g_get (C := RX6) (T := TX6) (N := 29) h 10 (wat_M E _) rfl in_X6_complete_X6 (by decide) lk_X6_complete_34 rfl rfl dX6_complete_100 ?_
            refine g_iload_n h 1 dX6_complete_103 rfl rfl ?_
            refine g_aload_n h 0 dX6_complete_104 rfl rfl ?_
            refine g_get (C := RX6) (T := TX6) (N := 29) h 15 (wat_M E _) rfl in_X6_complete_X6 (by decide) lk_X6_complete_50 rfl rfl dX6_complete_105 ?_
            refine g_iload_n h 1 dX6_complete_108 rfl rfl ?_
            refine g_iald (n := 4) h (wat_Y E _ (i := 13) (by decide)) (by omega) (by decide) dX6_complete_109 ?_
            refine g_iast (n := 4) h (ws_Y E _ (i := 8) (by decide) _) (by omega) (by decide) dX6_complete_110 ?_
            refine g_aload_n h 0 dX6_complete_111 rfl rfl ?_
            refine g_iload_n h 1 dX6_complete_112 rfl rfl ?_
            refine g_iload_n h 2 dX6_complete_113 rfl rfl ?_
            refine g_callV (As := [.int (nI i), .int (nI (nat (x.AM 9 i)))]) (C := RX6) h 2 (c_X6_use l E _ i (nat (x.AM 9 i)) (by omega) (by omega)) rfl gX6_complete_X6_use rfl rfl rfl rfl (by decide +kernel) ⟨Nat.le_of_ble_eq_true rfl, Nat.le_of_ble_eq_true rfl⟩ (wat_M E _) rfl rfl dX6_complete_114 ⟨Nat.le_refl _, Nat.le_refl _⟩ (Nat.le_of_ble_eq_true rfl) ?_
            rintro _ _ ⟨rfl, hy⟩
            obtain rfl := hy.symm
            dsimp only [Option.toList, List.cons_append, List.nil_append]
            refine g_aload_n h 0 dX6_complete_117 rfl rfl ?_
            refine g_get (C := RX6) (T := TX6) (N := 29) h 11 (wat_M E _) rfl in_X6_complete_X6 (by decide) lk_X6_complete_37 rfl rfl dX6_complete_118 ?_
            refine g_iload_n h 1 dX6_complete_121 rfl rfl ?_
            refine g_iconst (v := -1) h dX6_complete_122 (by decide) ?_
            refine g_iast (n := 4) h (ws_Y E _ (i := 9) (by decide) _) (by omega) (by decide) dX6_complete_123 ?_
            refine g_aload_n h 0 dX6_complete_124 rfl rfl ?_
            refine g_get (C := RX6) (T := TX6) (N := 29) h 14 (wat_M E _) rfl in_X6_complete_X6 (by decide) lk_X6_complete_47 rfl rfl dX6_complete_125 ?_
            refine g_iload_n h 1 dX6_complete_128 rfl rfl ?_
            refine g_iconst (v := nI 0) h dX6_complete_129 (by decide) ?_
            refine g_zast (n := 4) h (ws_Y E _ (i := 12) (by decide) _) (by omega) (by decide) dX6_complete_130 ?_
            refine g_aload_n h 0 dX6_complete_131 rfl rfl ?_
            refine g_iconst (v := nI 4) h dX6_complete_132 (by decide) ?_
            refine g_iload_n h 2 dX6_complete_133 rfl rfl ?_
            refine g_iload_n h 1 dX6_complete_134 rfl rfl ?_
            refine g_iconst (v := -1) h dX6_complete_135 (by decide) ?_
            refine g_iconst (v := nI 0) h dX6_complete_136 (by decide) ?_
            refine g_iconst (v := nI 0) h dX6_complete_137 (by decide) ?_
            refine g_iconst (v := -1) h dX6_complete_138 (by decide) ?_
            refine g_callV (As := [.int (nI 4), .int (nI (nat (x.AM 9 i))), .int (nI i), .int _, .int (nI 0), .int (nI 0), .int _]) (C := RX6) h 7 (c_X6_send l E _ _ _ _ _ _ _ _ (sOK.mono ((sOK_AM (sOK_AM (sOK_use (sOK_AM (sOK_AM (sOK_AM hs))))))) (by omega))) rfl gX6_complete_X6_send rfl rfl rfl rfl (by decide +kernel) ⟨Nat.le_of_ble_eq_true rfl, Nat.le_of_ble_eq_true rfl⟩ (wat_M E _) rfl rfl dX6_complete_139 ⟨Nat.le_refl _, Nat.le_refl _⟩ (Nat.le_of_ble_eq_true rfl) ?_
            rintro _ _ ⟨rfl, hy⟩
            obtain rfl := hy.symm
            dsimp only [Option.toList, List.cons_append, List.nil_append]
            exact g_vret h hr hk dX6_complete_142 (Nat.zero_le _) (Nat.zero_le _) ⟨rfl, Eq.symm (Eq.trans (if_neg c_6) (Eq.trans (if_pos c_21) (Eq.trans (if_neg c_47) (Eq.trans (if_pos c_71) (if_pos c_96)))))⟩
        · skip
          refine g_aload_n h 0 dX6_complete_74 rfl rfl ?_
          refine g_get (C := RX6) (T := TX6) (N := 29) h 13 (wat_M E _) rfl in_X6_complete_X6 (by decide) lk_X6_complete_44 rfl rfl dX6_complete_75 ?_
          refine g_iload_n h 1 dX6_complete_78 rfl rfl ?_
          refine g_iald (n := 4) h (wat_Y E _ (i := 11) (by decide)) (by omega) (by decide) dX6_complete_79 ?_
          refine g_goto h 89 dX6_complete_80 (by decide) ?_
          refine g_iast (n := 64) h (ws_Y E _ (i := 3) (by decide) _) (by omega) (by decide) dX6_complete_89 ?_
          refine g_aload_n h 0 dX6_complete_90 rfl rfl ?_
          refine g_get (C := RX6) (T := TX6) (N := 29) h 12 (wat_M E _) rfl in_X6_complete_X6 (by decide) lk_X6_complete_40 rfl rfl dX6_complete_91 ?_
          refine g_iload_n h 1 dX6_complete_94 rfl rfl ?_
          refine g_zald (n := 4) h (wat_Y E _ (i := 10) (by decide)) (by omega) (by decide) dX6_complete_95 ?_
          refine g_if_ne h 111 dX6_complete_96 (by decide) (fun c_96 => ?_) (fun c_96 => ?_)
          · skip
            refine g_aload_n h 0 dX6_complete_111 rfl rfl ?_
            refine g_iload_n h 1 dX6_complete_112 rfl rfl ?_
            refine g_iload_n h 2 dX6_complete_113 rfl rfl ?_
            refine g_callV (As := [.int (nI i), .int (nI (nat (x.AM 9 i)))]) (C := RX6) h 2 (c_X6_use l E _ i (nat (x.AM 9 i)) (by omega) (by omega)) rfl gX6_complete_X6_use rfl rfl rfl rfl (by decide +kernel) ⟨Nat.le_of_ble_eq_true rfl, Nat.le_of_ble_eq_true rfl⟩ (wat_M E _) rfl rfl dX6_complete_114 ⟨Nat.le_refl _, Nat.le_refl _⟩ (Nat.le_of_ble_eq_true rfl) ?_
            rintro _ _ ⟨rfl, hy⟩
            obtain rfl := hy.symm
            dsimp only [Option.toList, List.cons_append, List.nil_append]
            refine g_aload_n h 0 dX6_complete_117 rfl rfl ?_
            refine g_get (C := RX6) (T := TX6) (N := 29) h 11 (wat_M E _) rfl in_X6_complete_X6 (by decide) lk_X6_complete_37 rfl rfl dX6_complete_118 ?_
            refine g_iload_n h 1 dX6_complete_121 rfl rfl ?_
            refine g_iconst (v := -1) h dX6_complete_122 (by decide) ?_
            refine g_iast (n := 4) h (ws_Y E _ (i := 9) (by decide) _) (by omega) (by decide) dX6_complete_123 ?_
            refine g_aload_n h 0 dX6_complete_124 rfl rfl ?_
            refine g_get (C := RX6) (T := TX6) (N := 29) h 14 (wat_M E _) rfl in_X6_complete_X6 (by decide) lk_X6_complete_47 rfl rfl dX6_complete_125 ?_
            refine g_iload_n h 1 dX6_complete_128 rfl rfl ?_
            refine g_iconst (v := nI 0) h dX6_complete_129 (by decide) ?_
            refine g_zast (n := 4) h (ws_Y E _ (i := 12) (by decide) _) (by omega) (by decide) dX6_complete_130 ?_
            refine g_aload_n h 0 dX6_complete_131 rfl rfl ?_
            refine g_iconst (v := nI 4) h dX6_complete_132 (by decide) ?_
            refine g_iload_n h 2 dX6_complete_133 rfl rfl ?_
            refine g_iload_n h 1 dX6_complete_134 rfl rfl ?_
            refine g_iconst (v := -1) h dX6_complete_135 (by decide) ?_
            refine g_iconst (v := nI 0) h dX6_complete_136 (by decide) ?_
            refine g_iconst (v := nI 0) h dX6_complete_137 (by decide) ?_
            refine g_iconst (v := -1) h dX6_complete_138 (by decide) ?_
            refine g_callV (As := [.int (nI 4), .int (nI (nat (x.AM 9 i))), .int (nI i), .int _, .int (nI 0), .int (nI 0), .int _]) (C := RX6) h 7 (c_X6_send l E _ _ _ _ _ _ _ _ (sOK.mono ((sOK_AM (sOK_AM (sOK_use (sOK_AM (sOK_AM hs)))))) (by omega))) rfl gX6_complete_X6_send rfl rfl rfl rfl (by decide +kernel) ⟨Nat.le_of_ble_eq_true rfl, Nat.le_of_ble_eq_true rfl⟩ (wat_M E _) rfl rfl dX6_complete_139 ⟨Nat.le_refl _, Nat.le_refl _⟩ (Nat.le_of_ble_eq_true rfl) ?_
            rintro _ _ ⟨rfl, hy⟩
            obtain rfl := hy.symm
            dsimp only [Option.toList, List.cons_append, List.nil_append]
            exact g_vret h hr hk dX6_complete_142 (Nat.zero_le _) (Nat.zero_le _) ⟨rfl, Eq.symm (Eq.trans (if_neg c_6) (Eq.trans (if_pos c_21) (Eq.trans (if_neg c_47) (Eq.trans (if_neg c_71) (if_neg c_96)))))⟩
          · skip
            refine g_aload_n h 0 dX6_complete_99 rfl rfl ?_
            refine g_get (C := RX6) (T := TX6) (N := 29) h 10 (wat_M E _) rfl in_X6_complete_X6 (by decide) lk_X6_complete_34 rfl rfl dX6_complete_100 ?_
            refine g_iload_n h 1 dX6_complete_103 rfl rfl ?_
            refine g_aload_n h 0 dX6_complete_104 rfl rfl ?_
            refine g_get (C := RX6) (T := TX6) (N := 29) h 15 (wat_M E _) rfl in_X6_complete_X6 (by decide) lk_X6_complete_50 rfl rfl dX6_complete_105 ?_
            refine g_iload_n h 1 dX6_complete_108 rfl rfl ?_
            refine g_iald (n := 4) h (wat_Y E _ (i := 13) (by decide)) (by omega) (by decide) dX6_complete_109 ?_
            refine g_iast (n := 4) h (ws_Y E _ (i := 8) (by decide) _) (by omega) (by decide) dX6_complete_110 ?_
            refine g_aload_n h 0 dX6_complete_111 rfl rfl ?_
            refine g_iload_n h 1 dX6_complete_112 rfl rfl ?_
            refine g_iload_n h 2 dX6_complete_113 rfl rfl ?_
            refine g_callV (As := [.int (nI i), .int (nI (nat (x.AM 9 i)))]) (C := RX6) h 2 (c_X6_use l E _ i (nat (x.AM 9 i)) (by omega) (by omega)) rfl gX6_complete_X6_use rfl rfl rfl rfl (by decide +kernel) ⟨Nat.le_of_ble_eq_true rfl, Nat.le_of_ble_eq_true rfl⟩ (wat_M E _) rfl rfl dX6_complete_114 ⟨Nat.le_refl _, Nat.le_refl _⟩ (Nat.le_of_ble_eq_true rfl) ?_
            rintro _ _ ⟨rfl, hy⟩
            obtain rfl := hy.symm
            dsimp only [Option.toList, List.cons_append, List.nil_append]
            refine g_aload_n h 0 dX6_complete_117 rfl rfl ?_
            refine g_get (C := RX6) (T := TX6) (N := 29) h 11 (wat_M E _) rfl in_X6_complete_X6 (by decide) lk_X6_complete_37 rfl rfl dX6_complete_118 ?_
            refine g_iload_n h 1 dX6_complete_121 rfl rfl ?_
            refine g_iconst (v := -1) h dX6_complete_122 (by decide) ?_
            refine g_iast (n := 4) h (ws_Y E _ (i := 9) (by decide) _) (by omega) (by decide) dX6_complete_123 ?_
            refine g_aload_n h 0 dX6_complete_124 rfl rfl ?_
            refine g_get (C := RX6) (T := TX6) (N := 29) h 14 (wat_M E _) rfl in_X6_complete_X6 (by decide) lk_X6_complete_47 rfl rfl dX6_complete_125 ?_
            refine g_iload_n h 1 dX6_complete_128 rfl rfl ?_
            refine g_iconst (v := nI 0) h dX6_complete_129 (by decide) ?_
            refine g_zast (n := 4) h (ws_Y E _ (i := 12) (by decide) _) (by omega) (by decide) dX6_complete_130 ?_
            refine g_aload_n h 0 dX6_complete_131 rfl rfl ?_
            refine g_iconst (v := nI 4) h dX6_complete_132 (by decide) ?_
            refine g_iload_n h 2 dX6_complete_133 rfl rfl ?_
            refine g_iload_n h 1 dX6_complete_134 rfl rfl ?_
            refine g_iconst (v := -1) h dX6_complete_135 (by decide) ?_
            refine g_iconst (v := nI 0) h dX6_complete_136 (by decide) ?_
            refine g_iconst (v := nI 0) h dX6_complete_137 (by decide) ?_
            refine g_iconst (v := -1) h dX6_complete_138 (by decide) ?_
            refine g_callV (As := [.int (nI 4), .int (nI (nat (x.AM 9 i))), .int (nI i), .int _, .int (nI 0), .int (nI 0), .int _]) (C := RX6) h 7 (c_X6_send l E _ _ _ _ _ _ _ _ (sOK.mono ((sOK_AM (sOK_AM (sOK_use (sOK_AM (sOK_AM (sOK_AM hs))))))) (by omega))) rfl gX6_complete_X6_send rfl rfl rfl rfl (by decide +kernel) ⟨Nat.le_of_ble_eq_true rfl, Nat.le_of_ble_eq_true rfl⟩ (wat_M E _) rfl rfl dX6_complete_139 ⟨Nat.le_refl _, Nat.le_refl _⟩ (Nat.le_of_ble_eq_true rfl) ?_
            rintro _ _ ⟨rfl, hy⟩
            obtain rfl := hy.symm
            dsimp only [Option.toList, List.cons_append, List.nil_append]
            exact g_vret h hr hk dX6_complete_142 (Nat.zero_le _) (Nat.zero_le _) ⟨rfl, Eq.symm (Eq.trans (if_neg c_6) (Eq.trans (if_pos c_21) (Eq.trans (if_neg c_47) (Eq.trans (if_neg c_71) (if_pos c_96)))))⟩
    · skip
      exact g_vret h hr hk dX6_complete_24 (Nat.zero_le _) (Nat.zero_le _) ⟨rfl, Eq.symm (Eq.trans (if_neg c_6) (if_neg c_21))⟩
theorem in_X6_receive_X6 : ∀ w ∈ wsX60, w ∈ wsX6_receive := by decide +kernel
theorem lk_X6_receive_16 : Cond.fieldLink RX6 16 "CacheDirectoryModel" "states" "[I" ∈ wsX6_receive := by decide +kernel
theorem lk_X6_receive_25 : Cond.fieldLink RX6 25 "CacheDirectoryModel" "victims" "[I" ∈ wsX6_receive := by decide +kernel
theorem lk_X6_receive_80 : Cond.fieldLink RX6 80 "CacheDirectoryModel" "now" "[I" ∈ wsX6_receive := by decide +kernel
theorem lk_X6_receive_47 : Cond.fieldLink RX6 47 "CacheDirectoryModel" "isAnswered" "[Z" ∈ wsX6_receive := by decide +kernel
theorem lk_X6_receive_50 : Cond.fieldLink RX6 50 "CacheDirectoryModel" "answers" "[I" ∈ wsX6_receive := by decide +kernel
theorem lk_X6_receive_53 : Cond.fieldLink RX6 53 "CacheDirectoryModel" "needed" "[I" ∈ wsX6_receive := by decide +kernel
theorem lk_X6_receive_56 : Cond.fieldLink RX6 56 "CacheDirectoryModel" "got" "[I" ∈ wsX6_receive := by decide +kernel
theorem lk_X6_receive_19 : Cond.fieldLink RX6 19 "CacheDirectoryModel" "values" "[I" ∈ wsX6_receive := by decide +kernel
def s_X6_receive (x : St) (i : Nat) (j : Nat) : St :=
  if (x.AM 2 (16 * i + j)) ≤ 0 then
    if (x.AM 23 0) = nI 5 then
      let x1 := x.setAM 12 (upd (x.AM 12) i (vp_nar .boolean (nI 1)))
      let x2 := x1.setAM 13 (upd (x1.AM 13) i (x1.AM 23 4))
      let x3 := x2.setAM 14 (upd (x2.AM 14) i (x2.AM 23 5))
      let x4 := s_X6_complete x3 i
      x4
    else
      if (x.AM 23 0) = nI 6 then
        let x5 := x.setAM 12 (upd (x.AM 12) i (vp_nar .boolean (nI 1)))
        let x6 := x5.setAM 13 (upd (x5.AM 13) i (x5.AM 23 4))
        let x7 := x6.setAM 14 (upd (x6.AM 14) i (x6.AM 23 5))
        let x8 := s_X6_complete x7 i
        x8
      else
        if (x.AM 23 0) = nI 7 then
          let x9 := x.setAM 15 (upd (x.AM 15) i ((x.AM 15 i) + (nI 1)))
          let x10 := s_X6_complete x9 i
          x10
        else
          if (x.AM 23 0) = nI 8 then
            let x11 := s_X6_send x (nI 5) (nI j) (nI i) (x.AM 23 6) (x.AM 5 (16 * i + j)) (nI 0) ((-1 : Int32))
            if (x11.AM 2 (16 * i + j)) = (nI 3) then
              let x12 := x11.setAM 2 (upd (x11.AM 2) (16 * i + j) (nI 2))
              x12
            else
              x11
          else
            if (x.AM 23 0) = nI 9 then
              let x13 := s_X6_send x (nI 5) (nI j) (nI i) (x.AM 23 6) (x.AM 5 (16 * i + j)) (x.AM 23 5) ((-1 : Int32))
              let x14 := x13.setAM 2 (upd (x13.AM 2) (16 * i + j) (nI 0))
              x14
            else
              if (x.AM 23 0) = nI 10 then
                if (x.AM 2 (16 * i + j)) = (nI 1) then
                  let x16 := x.setAM 2 (upd (x.AM 2) (16 * i + j) (nI 0))
                  let x17 := s_X6_send x16 (nI 7) (nI j) (nI i) (x16.AM 23 6) (nI 0) (nI 0) ((-1 : Int32))
                  x17
                else
                  let x15 := s_X6_send x (nI 7) (nI j) (nI i) (x.AM 23 6) (nI 0) (nI 0) ((-1 : Int32))
                  x15
              else
                let x18 := x.setAM 5 (upd (x.AM 5) (16 * i + j) ((-1 : Int32)))
                x18
  else
    if (x.AM 23 0) = nI 5 then
      let x19 := x.setAM 12 (upd (x.AM 12) i (vp_nar .boolean (nI 1)))
      let x20 := x19.setAM 13 (upd (x19.AM 13) i (x19.AM 23 4))
      let x21 := x20.setAM 14 (upd (x20.AM 14) i (x20.AM 23 5))
      let x22 := s_X6_complete x21 i
      x22
    else
      if (x.AM 23 0) = nI 6 then
        let x23 := x.setAM 12 (upd (x.AM 12) i (vp_nar .boolean (nI 1)))
        let x24 := x23.setAM 13 (upd (x23.AM 13) i (x23.AM 23 4))
        let x25 := x24.setAM 14 (upd (x24.AM 14) i (x24.AM 23 5))
        let x26 := s_X6_complete x25 i
        x26
      else
        if (x.AM 23 0) = nI 7 then
          let x27 := x.setAM 15 (upd (x.AM 15) i ((x.AM 15 i) + (nI 1)))
          let x28 := s_X6_complete x27 i
          x28
        else
          if (x.AM 23 0) = nI 8 then
            let x29 := s_X6_send x (nI 5) (nI j) (nI i) (x.AM 23 6) (x.AM 3 (16 * i + j)) (nI 0) ((-1 : Int32))
            if (x29.AM 2 (16 * i + j)) = (nI 3) then
              let x30 := x29.setAM 2 (upd (x29.AM 2) (16 * i + j) (nI 2))
              x30
            else
              x29
          else
            if (x.AM 23 0) = nI 9 then
              let x31 := s_X6_send x (nI 5) (nI j) (nI i) (x.AM 23 6) (x.AM 3 (16 * i + j)) (x.AM 23 5) ((-1 : Int32))
              let x32 := x31.setAM 2 (upd (x31.AM 2) (16 * i + j) (nI 0))
              x32
            else
              if (x.AM 23 0) = nI 10 then
                if (x.AM 2 (16 * i + j)) = (nI 1) then
                  let x34 := x.setAM 2 (upd (x.AM 2) (16 * i + j) (nI 0))
                  let x35 := s_X6_send x34 (nI 7) (nI j) (nI i) (x34.AM 23 6) (nI 0) (nI 0) ((-1 : Int32))
                  x35
                else
                  let x33 := s_X6_send x (nI 7) (nI j) (nI i) (x.AM 23 6) (nI 0) (nI 0) ((-1 : Int32))
                  x33
              else
                let x36 := x.setAM 5 (upd (x.AM 5) (16 * i + j) ((-1 : Int32)))
                x36
set_option maxRecDepth 100000 in
set_option maxHeartbeats 400000 in
theorem c_X6_receive (l : Launch) (E : gE) (x : St) (i : Nat) (j : Nat) (hi : i < 4) (hj : j < 16) (hs : sOK x 1) (ho : (x.AM 23 0 = nI 5 ∨ x.AM 23 0 = nI 6 ∨ x.AM 23 0 = nI 7) → x.AM 9 i = nI (nat (x.AM 9 i)) ∧ nat (x.AM 9 i) < 16) : Ct l yX6_receive wsX6_receive { frames := 3, cells := 0, slots := 0, locals := 65 } E [.ref (aM E), .int (nI i), .int (nI j)] x (fun v y => v = none ∧ y = s_X6_receive x i j) 0 0 := by
  refine Ct.of (cc := cX6_receive) (nL := 5) (ret := none) (by decide) rfl (Nat.le_of_ble_eq_true rfl) ?_
  intro p e s m args below meth c h hr hk hname
  refine g_lvs (lv' := [(0, _), (1, _), (2, _)]) rfl ?_
  refine g_iload_n h 1 dX6_receive_0 rfl rfl ?_
  refine g_iload_n h 2 dX6_receive_1 rfl rfl ?_
  refine g_callS (As := [.int (nI i), .int (nI j)]) h 2 (c_X6_at l E _ i j (by omega) (by omega)) rfl gX6_receive_X6_at rfl rfl rfl rfl (by decide +kernel) ⟨Nat.le_of_ble_eq_true rfl, Nat.le_of_ble_eq_true rfl⟩ dX6_receive_2 ⟨Nat.le_refl _, Nat.le_refl _⟩ (Nat.le_of_ble_eq_true rfl) ?_
  rintro _ _ ⟨rfl, hy⟩
  obtain rfl := hy.symm
  dsimp only [Option.toList, List.cons_append, List.nil_append]
  refine g_istore_n (lv' := [(0, _), (1, _), (2, _), (3, _)]) h [1, 2, 3, 0] dX6_receive_5 rfl (by decide) rfl ?_
  refine g_aload_n h 0 dX6_receive_6 rfl rfl ?_
  refine g_get (C := RX6) (T := TX6) (N := 29) h 3 (wat_M E _) rfl in_X6_receive_X6 (by decide) lk_X6_receive_16 rfl rfl dX6_receive_7 ?_
  refine g_iload_n h 3 dX6_receive_10 rfl rfl ?_
  refine g_iald (n := 64) h (wat_Y E _ (i := 2) (by decide)) (by omega) (by decide) dX6_receive_11 ?_
  refine g_if_le h 24 dX6_receive_12 (by decide) (fun c_12 => ?_) (fun c_12 => ?_)
  · skip
    refine g_aload_n h 0 dX6_receive_24 rfl rfl ?_
    refine g_get (C := RX6) (T := TX6) (N := 29) h 6 (wat_M E _) rfl in_X6_receive_X6 (by decide) lk_X6_receive_25 rfl rfl dX6_receive_25 ?_
    refine g_iload_n h 3 dX6_receive_28 rfl rfl ?_
    refine g_iald (n := 64) h (wat_Y E _ (i := 5) (by decide)) (by omega) (by decide) dX6_receive_29 ?_
    refine g_istore (lv' := [(0, _), (1, _), (2, _), (3, _), (4, _)]) h [1, 2, 3, 4, 0] dX6_receive_30 (by decide) rfl ?_
    refine g_aload_n h 0 dX6_receive_32 rfl rfl ?_
    refine g_get (C := RX6) (T := TX6) (N := 29) h 28 (wat_M E _) rfl in_X6_receive_X6 (by decide) lk_X6_receive_80 rfl rfl dX6_receive_33 ?_
    refine g_iconst (v := nI 0) h dX6_receive_36 (by decide) ?_
    refine g_iald (n := 7) h (wat_Y E _ (i := 23) (by decide)) (by omega) (by decide) dX6_receive_37 ?_
    by_cases c_38_5 : (x.AM 23 0) = nI 5
    · skip
      refine g_eqi c_38_5 ?_
      refine g_tableIn h 76 dX6_receive_38 (by decide) (by decide) (off := 38) (by decide) (by decide) ?_
      refine g_aload_n h 0 dX6_receive_76 rfl rfl ?_
      refine g_get (C := RX6) (T := TX6) (N := 29) h 14 (wat_M E _) rfl in_X6_receive_X6 (by decide) lk_X6_receive_47 rfl rfl dX6_receive_77 ?_
      refine g_iload_n h 1 dX6_receive_80 rfl rfl ?_
      refine g_iconst (v := nI 1) h dX6_receive_81 (by decide) ?_
      refine g_zast (n := 4) h (ws_Y E _ (i := 12) (by decide) _) (by omega) (by decide) dX6_receive_82 ?_
      refine g_aload_n h 0 dX6_receive_83 rfl rfl ?_
      refine g_get (C := RX6) (T := TX6) (N := 29) h 15 (wat_M E _) rfl in_X6_receive_X6 (by decide) lk_X6_receive_50 rfl rfl dX6_receive_84 ?_
      refine g_iload_n h 1 dX6_receive_87 rfl rfl ?_
      refine g_aload_n h 0 dX6_receive_88 rfl rfl ?_
      refine g_get (C := RX6) (T := TX6) (N := 29) h 28 (wat_M E _) rfl in_X6_receive_X6 (by decide) lk_X6_receive_80 rfl rfl dX6_receive_89 ?_
      refine g_iconst (v := nI 4) h dX6_receive_92 (by decide) ?_
      refine g_iald (n := 7) h (wat_Y E _ (i := 23) (by decide)) (by omega) (by decide) dX6_receive_93 ?_
      refine g_iast (n := 4) h (ws_Y E _ (i := 13) (by decide) _) (by omega) (by decide) dX6_receive_94 ?_
      refine g_aload_n h 0 dX6_receive_95 rfl rfl ?_
      refine g_get (C := RX6) (T := TX6) (N := 29) h 16 (wat_M E _) rfl in_X6_receive_X6 (by decide) lk_X6_receive_53 rfl rfl dX6_receive_96 ?_
      refine g_iload_n h 1 dX6_receive_99 rfl rfl ?_
      refine g_aload_n h 0 dX6_receive_100 rfl rfl ?_
      refine g_get (C := RX6) (T := TX6) (N := 29) h 28 (wat_M E _) rfl in_X6_receive_X6 (by decide) lk_X6_receive_80 rfl rfl dX6_receive_101 ?_
      refine g_iconst (v := nI 5) h dX6_receive_104 (by decide) ?_
      refine g_iald (n := 7) h (wat_Y E _ (i := 23) (by decide)) (by omega) (by decide) dX6_receive_105 ?_
      refine g_iast (n := 4) h (ws_Y E _ (i := 14) (by decide) _) (by omega) (by decide) dX6_receive_106 ?_
      refine g_aload_n h 0 dX6_receive_107 rfl rfl ?_
      refine g_iload_n h 1 dX6_receive_108 rfl rfl ?_
      refine g_callV (As := [.int (nI i)]) (C := RX6) h 1 (c_X6_complete l E _ i (by omega) (sOK_AM (sOK_AM (sOK_AM hs))) (by simp (disch := decide) only [AM_ne]; exact ho (by first | exact Or.inl c_38_5 | exact Or.inr (Or.inl c_38_6) | exact Or.inr (Or.inr c_38_7)))) rfl gX6_receive_X6_complete rfl rfl rfl rfl (by decide +kernel) ⟨Nat.le_of_ble_eq_true rfl, Nat.le_of_ble_eq_true rfl⟩ (wat_M E _) rfl rfl dX6_receive_109 ⟨Nat.le_refl _, Nat.le_refl _⟩ (Nat.le_of_ble_eq_true rfl) ?_
      rintro _ _ ⟨rfl, hy⟩
      obtain rfl := hy.symm
      dsimp only [Option.toList, List.cons_append, List.nil_append]
      refine g_goto h 249 dX6_receive_112 (by decide) ?_
      exact g_vret h hr hk dX6_receive_249 (Nat.zero_le _) (Nat.zero_le _) ⟨rfl, Eq.symm (Eq.trans (if_pos c_12) (if_pos c_38_5))⟩
    by_cases c_38_6 : (x.AM 23 0) = nI 6
    · skip
      refine g_eqi c_38_6 ?_
      refine g_tableIn h 76 dX6_receive_38 (by decide) (by decide) (off := 38) (by decide) (by decide) ?_
      refine g_aload_n h 0 dX6_receive_76 rfl rfl ?_
      refine g_get (C := RX6) (T := TX6) (N := 29) h 14 (wat_M E _) rfl in_X6_receive_X6 (by decide) lk_X6_receive_47 rfl rfl dX6_receive_77 ?_
      refine g_iload_n h 1 dX6_receive_80 rfl rfl ?_
      refine g_iconst (v := nI 1) h dX6_receive_81 (by decide) ?_
      refine g_zast (n := 4) h (ws_Y E _ (i := 12) (by decide) _) (by omega) (by decide) dX6_receive_82 ?_
      refine g_aload_n h 0 dX6_receive_83 rfl rfl ?_
      refine g_get (C := RX6) (T := TX6) (N := 29) h 15 (wat_M E _) rfl in_X6_receive_X6 (by decide) lk_X6_receive_50 rfl rfl dX6_receive_84 ?_
      refine g_iload_n h 1 dX6_receive_87 rfl rfl ?_
      refine g_aload_n h 0 dX6_receive_88 rfl rfl ?_
      refine g_get (C := RX6) (T := TX6) (N := 29) h 28 (wat_M E _) rfl in_X6_receive_X6 (by decide) lk_X6_receive_80 rfl rfl dX6_receive_89 ?_
      refine g_iconst (v := nI 4) h dX6_receive_92 (by decide) ?_
      refine g_iald (n := 7) h (wat_Y E _ (i := 23) (by decide)) (by omega) (by decide) dX6_receive_93 ?_
      refine g_iast (n := 4) h (ws_Y E _ (i := 13) (by decide) _) (by omega) (by decide) dX6_receive_94 ?_
      refine g_aload_n h 0 dX6_receive_95 rfl rfl ?_
      refine g_get (C := RX6) (T := TX6) (N := 29) h 16 (wat_M E _) rfl in_X6_receive_X6 (by decide) lk_X6_receive_53 rfl rfl dX6_receive_96 ?_
      refine g_iload_n h 1 dX6_receive_99 rfl rfl ?_
      refine g_aload_n h 0 dX6_receive_100 rfl rfl ?_
      refine g_get (C := RX6) (T := TX6) (N := 29) h 28 (wat_M E _) rfl in_X6_receive_X6 (by decide) lk_X6_receive_80 rfl rfl dX6_receive_101 ?_
      refine g_iconst (v := nI 5) h dX6_receive_104 (by decide) ?_
      refine g_iald (n := 7) h (wat_Y E _ (i := 23) (by decide)) (by omega) (by decide) dX6_receive_105 ?_
      refine g_iast (n := 4) h (ws_Y E _ (i := 14) (by decide) _) (by omega) (by decide) dX6_receive_106 ?_
      refine g_aload_n h 0 dX6_receive_107 rfl rfl ?_
      refine g_iload_n h 1 dX6_receive_108 rfl rfl ?_
      refine g_callV (As := [.int (nI i)]) (C := RX6) h 1 (c_X6_complete l E _ i (by omega) (sOK_AM (sOK_AM (sOK_AM hs))) (by simp (disch := decide) only [AM_ne]; exact ho (by first | exact Or.inl c_38_5 | exact Or.inr (Or.inl c_38_6) | exact Or.inr (Or.inr c_38_7)))) rfl gX6_receive_X6_complete rfl rfl rfl rfl (by decide +kernel) ⟨Nat.le_of_ble_eq_true rfl, Nat.le_of_ble_eq_true rfl⟩ (wat_M E _) rfl rfl dX6_receive_109 ⟨Nat.le_refl _, Nat.le_refl _⟩ (Nat.le_of_ble_eq_true rfl) ?_
      rintro _ _ ⟨rfl, hy⟩
      obtain rfl := hy.symm
      dsimp only [Option.toList, List.cons_append, List.nil_append]
      refine g_goto h 249 dX6_receive_112 (by decide) ?_
      exact g_vret h hr hk dX6_receive_249 (Nat.zero_le _) (Nat.zero_le _) ⟨rfl, Eq.symm (Eq.trans (if_pos c_12) (Eq.trans (if_neg c_38_5) (if_pos c_38_6)))⟩
    by_cases c_38_7 : (x.AM 23 0) = nI 7
    · skip
      refine g_eqi c_38_7 ?_
      refine g_tableIn h 115 dX6_receive_38 (by decide) (by decide) (off := 77) (by decide) (by decide) ?_
      refine g_aload_n h 0 dX6_receive_115 rfl rfl ?_
      refine g_get (C := RX6) (T := TX6) (N := 29) h 17 (wat_M E _) rfl in_X6_receive_X6 (by decide) lk_X6_receive_56 rfl rfl dX6_receive_116 ?_
      refine g_iload_n h 1 dX6_receive_119 rfl rfl ?_
      refine g_dup2 h dX6_receive_120 rfl rfl ?_
      refine g_iald (n := 4) h (wat_Y E _ (i := 15) (by decide)) (by omega) (by decide) dX6_receive_121 ?_
      refine g_iconst (v := nI 1) h dX6_receive_122 (by decide) ?_
      refine g_iadd h dX6_receive_123 ?_
      refine g_iast (n := 4) h (ws_Y E _ (i := 15) (by decide) _) (by omega) (by decide) dX6_receive_124 ?_
      refine g_aload_n h 0 dX6_receive_125 rfl rfl ?_
      refine g_iload_n h 1 dX6_receive_126 rfl rfl ?_
      refine g_callV (As := [.int (nI i)]) (C := RX6) h 1 (c_X6_complete l E _ i (by omega) (sOK_AM hs) (by simp (disch := decide) only [AM_ne]; exact ho (by first | exact Or.inl c_38_5 | exact Or.inr (Or.inl c_38_6) | exact Or.inr (Or.inr c_38_7)))) rfl gX6_receive_X6_complete rfl rfl rfl rfl (by decide +kernel) ⟨Nat.le_of_ble_eq_true rfl, Nat.le_of_ble_eq_true rfl⟩ (wat_M E _) rfl rfl dX6_receive_127 ⟨Nat.le_refl _, Nat.le_refl _⟩ (Nat.le_of_ble_eq_true rfl) ?_
      rintro _ _ ⟨rfl, hy⟩
      obtain rfl := hy.symm
      dsimp only [Option.toList, List.cons_append, List.nil_append]
      refine g_goto h 249 dX6_receive_130 (by decide) ?_
      exact g_vret h hr hk dX6_receive_249 (Nat.zero_le _) (Nat.zero_le _) ⟨rfl, Eq.symm (Eq.trans (if_pos c_12) (Eq.trans (if_neg c_38_5) (Eq.trans (if_neg c_38_6) (if_pos c_38_7))))⟩
    by_cases c_38_8 : (x.AM 23 0) = nI 8
    · skip
      refine g_eqi c_38_8 ?_
      refine g_tableIn h 133 dX6_receive_38 (by decide) (by decide) (off := 95) (by decide) (by decide) ?_
      refine g_aload_n h 0 dX6_receive_133 rfl rfl ?_
      refine g_iconst (v := nI 5) h dX6_receive_134 (by decide) ?_
      refine g_iload_n h 2 dX6_receive_135 rfl rfl ?_
      refine g_iload_n h 1 dX6_receive_136 rfl rfl ?_
      refine g_aload_n h 0 dX6_receive_137 rfl rfl ?_
      refine g_get (C := RX6) (T := TX6) (N := 29) h 28 (wat_M E _) rfl in_X6_receive_X6 (by decide) lk_X6_receive_80 rfl rfl dX6_receive_138 ?_
      refine g_bipush (v := nI 6) h dX6_receive_141 (by decide) ?_
      refine g_iald (n := 7) h (wat_Y E _ (i := 23) (by decide)) (by omega) (by decide) dX6_receive_143 ?_
      refine g_iload h 4 dX6_receive_144 rfl ?_
      refine g_iconst (v := nI 0) h dX6_receive_146 (by decide) ?_
      refine g_iconst (v := -1) h dX6_receive_147 (by decide) ?_
      refine g_callV (As := [.int (nI 5), .int (nI j), .int (nI i), .int _, .int _, .int (nI 0), .int _]) (C := RX6) h 7 (c_X6_send l E _ _ _ _ _ _ _ _ (sOK.mono (hs) (by omega))) rfl gX6_receive_X6_send rfl rfl rfl rfl (by decide +kernel) ⟨Nat.le_of_ble_eq_true rfl, Nat.le_of_ble_eq_true rfl⟩ (wat_M E _) rfl rfl dX6_receive_148 ⟨Nat.le_refl _, Nat.le_refl _⟩ (Nat.le_of_ble_eq_true rfl) ?_
      rintro _ _ ⟨rfl, hy⟩
      obtain rfl := hy.symm
      dsimp only [Option.toList, List.cons_append, List.nil_append]
      refine g_aload_n h 0 dX6_receive_151 rfl rfl ?_
      refine g_get (C := RX6) (T := TX6) (N := 29) h 3 (wat_M E _) rfl in_X6_receive_X6 (by decide) lk_X6_receive_16 rfl rfl dX6_receive_152 ?_
      refine g_iload_n h 3 dX6_receive_155 rfl rfl ?_
      refine g_iald (n := 64) h (wat_Y E _ (i := 2) (by decide)) (by omega) (by decide) dX6_receive_156 ?_
      refine g_iconst (v := nI 3) h dX6_receive_157 (by decide) ?_
      refine g_icmp_ne h 249 dX6_receive_158 (by decide) (fun c_158 => ?_) (fun c_158 => ?_)
      · skip
        exact g_vret h hr hk dX6_receive_249 (Nat.zero_le _) (Nat.zero_le _) ⟨rfl, Eq.symm (Eq.trans (if_pos c_12) (Eq.trans (if_neg c_38_5) (Eq.trans (if_neg c_38_6) (Eq.trans (if_neg c_38_7) (Eq.trans (if_pos c_38_8) (if_neg c_158))))))⟩
      · skip
        refine g_aload_n h 0 dX6_receive_161 rfl rfl ?_
        refine g_get (C := RX6) (T := TX6) (N := 29) h 3 (wat_M E _) rfl in_X6_receive_X6 (by decide) lk_X6_receive_16 rfl rfl dX6_receive_162 ?_
        refine g_iload_n h 3 dX6_receive_165 rfl rfl ?_
        refine g_iconst (v := nI 2) h dX6_receive_166 (by decide) ?_
        refine g_iast (n := 64) h (ws_Y E _ (i := 2) (by decide) _) (by omega) (by decide) dX6_receive_167 ?_
        refine g_goto h 249 dX6_receive_168 (by decide) ?_
        exact g_vret h hr hk dX6_receive_249 (Nat.zero_le _) (Nat.zero_le _) ⟨rfl, Eq.symm (Eq.trans (if_pos c_12) (Eq.trans (if_neg c_38_5) (Eq.trans (if_neg c_38_6) (Eq.trans (if_neg c_38_7) (Eq.trans (if_pos c_38_8) (if_pos c_158))))))⟩
    by_cases c_38_9 : (x.AM 23 0) = nI 9
    · skip
      refine g_eqi c_38_9 ?_
      refine g_tableIn h 171 dX6_receive_38 (by decide) (by decide) (off := 133) (by decide) (by decide) ?_
      refine g_aload_n h 0 dX6_receive_171 rfl rfl ?_
      refine g_iconst (v := nI 5) h dX6_receive_172 (by decide) ?_
      refine g_iload_n h 2 dX6_receive_173 rfl rfl ?_
      refine g_iload_n h 1 dX6_receive_174 rfl rfl ?_
      refine g_aload_n h 0 dX6_receive_175 rfl rfl ?_
      refine g_get (C := RX6) (T := TX6) (N := 29) h 28 (wat_M E _) rfl in_X6_receive_X6 (by decide) lk_X6_receive_80 rfl rfl dX6_receive_176 ?_
      refine g_bipush (v := nI 6) h dX6_receive_179 (by decide) ?_
      refine g_iald (n := 7) h (wat_Y E _ (i := 23) (by decide)) (by omega) (by decide) dX6_receive_181 ?_
      refine g_iload h 4 dX6_receive_182 rfl ?_
      refine g_aload_n h 0 dX6_receive_184 rfl rfl ?_
      refine g_get (C := RX6) (T := TX6) (N := 29) h 28 (wat_M E _) rfl in_X6_receive_X6 (by decide) lk_X6_receive_80 rfl rfl dX6_receive_185 ?_
      refine g_iconst (v := nI 5) h dX6_receive_188 (by decide) ?_
      refine g_iald (n := 7) h (wat_Y E _ (i := 23) (by decide)) (by omega) (by decide) dX6_receive_189 ?_
      refine g_iconst (v := -1) h dX6_receive_190 (by decide) ?_
      refine g_callV (As := [.int (nI 5), .int (nI j), .int (nI i), .int _, .int _, .int _, .int _]) (C := RX6) h 7 (c_X6_send l E _ _ _ _ _ _ _ _ (sOK.mono (hs) (by omega))) rfl gX6_receive_X6_send rfl rfl rfl rfl (by decide +kernel) ⟨Nat.le_of_ble_eq_true rfl, Nat.le_of_ble_eq_true rfl⟩ (wat_M E _) rfl rfl dX6_receive_191 ⟨Nat.le_refl _, Nat.le_refl _⟩ (Nat.le_of_ble_eq_true rfl) ?_
      rintro _ _ ⟨rfl, hy⟩
      obtain rfl := hy.symm
      dsimp only [Option.toList, List.cons_append, List.nil_append]
      refine g_aload_n h 0 dX6_receive_194 rfl rfl ?_
      refine g_get (C := RX6) (T := TX6) (N := 29) h 3 (wat_M E _) rfl in_X6_receive_X6 (by decide) lk_X6_receive_16 rfl rfl dX6_receive_195 ?_
      refine g_iload_n h 3 dX6_receive_198 rfl rfl ?_
      refine g_iconst (v := nI 0) h dX6_receive_199 (by decide) ?_
      refine g_iast (n := 64) h (ws_Y E _ (i := 2) (by decide) _) (by omega) (by decide) dX6_receive_200 ?_
      refine g_goto h 249 dX6_receive_201 (by decide) ?_
      exact g_vret h hr hk dX6_receive_249 (Nat.zero_le _) (Nat.zero_le _) ⟨rfl, Eq.symm (Eq.trans (if_pos c_12) (Eq.trans (if_neg c_38_5) (Eq.trans (if_neg c_38_6) (Eq.trans (if_neg c_38_7) (Eq.trans (if_neg c_38_8) (if_pos c_38_9))))))⟩
    by_cases c_38_10 : (x.AM 23 0) = nI 10
    · skip
      refine g_eqi c_38_10 ?_
      refine g_tableIn h 204 dX6_receive_38 (by decide) (by decide) (off := 166) (by decide) (by decide) ?_
      refine g_aload_n h 0 dX6_receive_204 rfl rfl ?_
      refine g_get (C := RX6) (T := TX6) (N := 29) h 3 (wat_M E _) rfl in_X6_receive_X6 (by decide) lk_X6_receive_16 rfl rfl dX6_receive_205 ?_
      refine g_iload_n h 3 dX6_receive_208 rfl rfl ?_
      refine g_iald (n := 64) h (wat_Y E _ (i := 2) (by decide)) (by omega) (by decide) dX6_receive_209 ?_
      refine g_iconst (v := nI 1) h dX6_receive_210 (by decide) ?_
      refine g_icmp_ne h 221 dX6_receive_211 (by decide) (fun c_211 => ?_) (fun c_211 => ?_)
      · skip
        refine g_aload_n h 0 dX6_receive_221 rfl rfl ?_
        refine g_bipush (v := nI 7) h dX6_receive_222 (by decide) ?_
        refine g_iload_n h 2 dX6_receive_224 rfl rfl ?_
        refine g_iload_n h 1 dX6_receive_225 rfl rfl ?_
        refine g_aload_n h 0 dX6_receive_226 rfl rfl ?_
        refine g_get (C := RX6) (T := TX6) (N := 29) h 28 (wat_M E _) rfl in_X6_receive_X6 (by decide) lk_X6_receive_80 rfl rfl dX6_receive_227 ?_
        refine g_bipush (v := nI 6) h dX6_receive_230 (by decide) ?_
        refine g_iald (n := 7) h (wat_Y E _ (i := 23) (by decide)) (by omega) (by decide) dX6_receive_232 ?_
        refine g_iconst (v := nI 0) h dX6_receive_233 (by decide) ?_
        refine g_iconst (v := nI 0) h dX6_receive_234 (by decide) ?_
        refine g_iconst (v := -1) h dX6_receive_235 (by decide) ?_
        refine g_callV (As := [.int (nI 7), .int (nI j), .int (nI i), .int _, .int (nI 0), .int (nI 0), .int _]) (C := RX6) h 7 (c_X6_send l E _ _ _ _ _ _ _ _ (sOK.mono (hs) (by omega))) rfl gX6_receive_X6_send rfl rfl rfl rfl (by decide +kernel) ⟨Nat.le_of_ble_eq_true rfl, Nat.le_of_ble_eq_true rfl⟩ (wat_M E _) rfl rfl dX6_receive_236 ⟨Nat.le_refl _, Nat.le_refl _⟩ (Nat.le_of_ble_eq_true rfl) ?_
        rintro _ _ ⟨rfl, hy⟩
        obtain rfl := hy.symm
        dsimp only [Option.toList, List.cons_append, List.nil_append]
        refine g_goto h 249 dX6_receive_239 (by decide) ?_
        exact g_vret h hr hk dX6_receive_249 (Nat.zero_le _) (Nat.zero_le _) ⟨rfl, Eq.symm (Eq.trans (if_pos c_12) (Eq.trans (if_neg c_38_5) (Eq.trans (if_neg c_38_6) (Eq.trans (if_neg c_38_7) (Eq.trans (if_neg c_38_8) (Eq.trans (if_neg c_38_9) (Eq.trans (if_pos c_38_10) (if_neg c_211))))))))⟩
      · skip
        refine g_aload_n h 0 dX6_receive_214 rfl rfl ?_
        refine g_get (C := RX6) (T := TX6) (N := 29) h 3 (wat_M E _) rfl in_X6_receive_X6 (by decide) lk_X6_receive_16 rfl rfl dX6_receive_215 ?_
        refine g_iload_n h 3 dX6_receive_218 rfl rfl ?_
        refine g_iconst (v := nI 0) h dX6_receive_219 (by decide) ?_
        refine g_iast (n := 64) h (ws_Y E _ (i := 2) (by decide) _) (by omega) (by decide) dX6_receive_220 ?_
        refine g_aload_n h 0 dX6_receive_221 rfl rfl ?_
        refine g_bipush (v := nI 7) h dX6_receive_222 (by decide) ?_
        refine g_iload_n h 2 dX6_receive_224 rfl rfl ?_
        refine g_iload_n h 1 dX6_receive_225 rfl rfl ?_
        refine g_aload_n h 0 dX6_receive_226 rfl rfl ?_
        refine g_get (C := RX6) (T := TX6) (N := 29) h 28 (wat_M E _) rfl in_X6_receive_X6 (by decide) lk_X6_receive_80 rfl rfl dX6_receive_227 ?_
        refine g_bipush (v := nI 6) h dX6_receive_230 (by decide) ?_
        refine g_iald (n := 7) h (wat_Y E _ (i := 23) (by decide)) (by omega) (by decide) dX6_receive_232 ?_
        refine g_iconst (v := nI 0) h dX6_receive_233 (by decide) ?_
        refine g_iconst (v := nI 0) h dX6_receive_234 (by decide) ?_
        refine g_iconst (v := -1) h dX6_receive_235 (by decide) ?_
        refine g_callV (As := [.int (nI 7), .int (nI j), .int (nI i), .int _, .int (nI 0), .int (nI 0), .int _]) (C := RX6) h 7 (c_X6_send l E _ _ _ _ _ _ _ _ (sOK.mono ((sOK_AM hs)) (by omega))) rfl gX6_receive_X6_send rfl rfl rfl rfl (by decide +kernel) ⟨Nat.le_of_ble_eq_true rfl, Nat.le_of_ble_eq_true rfl⟩ (wat_M E _) rfl rfl dX6_receive_236 ⟨Nat.le_refl _, Nat.le_refl _⟩ (Nat.le_of_ble_eq_true rfl) ?_
        rintro _ _ ⟨rfl, hy⟩
        obtain rfl := hy.symm
        dsimp only [Option.toList, List.cons_append, List.nil_append]
        refine g_goto h 249 dX6_receive_239 (by decide) ?_
        exact g_vret h hr hk dX6_receive_249 (Nat.zero_le _) (Nat.zero_le _) ⟨rfl, Eq.symm (Eq.trans (if_pos c_12) (Eq.trans (if_neg c_38_5) (Eq.trans (if_neg c_38_6) (Eq.trans (if_neg c_38_7) (Eq.trans (if_neg c_38_8) (Eq.trans (if_neg c_38_9) (Eq.trans (if_pos c_38_10) (if_pos c_211))))))))⟩
    have n_38_5 : ¬ (x.AM 23 0).toInt = 5 := lv_neT c_38_5 (by decide)
    have n_38_6 : ¬ (x.AM 23 0).toInt = 6 := lv_neT c_38_6 (by decide)
    have n_38_7 : ¬ (x.AM 23 0).toInt = 7 := lv_neT c_38_7 (by decide)
    have n_38_8 : ¬ (x.AM 23 0).toInt = 8 := lv_neT c_38_8 (by decide)
    have n_38_9 : ¬ (x.AM 23 0).toInt = 9 := lv_neT c_38_9 (by decide)
    have n_38_10 : ¬ (x.AM 23 0).toInt = 10 := lv_neT c_38_10 (by decide)
    refine g_tableOut h 242 dX6_receive_38 (by omega) (by decide) ?_
    refine g_aload_n h 0 dX6_receive_242 rfl rfl ?_
    refine g_get (C := RX6) (T := TX6) (N := 29) h 6 (wat_M E _) rfl in_X6_receive_X6 (by decide) lk_X6_receive_25 rfl rfl dX6_receive_243 ?_
    refine g_iload_n h 3 dX6_receive_246 rfl rfl ?_
    refine g_iconst (v := -1) h dX6_receive_247 (by decide) ?_
    refine g_iast (n := 64) h (ws_Y E _ (i := 5) (by decide) _) (by omega) (by decide) dX6_receive_248 ?_
    exact g_vret h hr hk dX6_receive_249 (Nat.zero_le _) (Nat.zero_le _) ⟨rfl, Eq.symm (Eq.trans (if_pos c_12) (Eq.trans (if_neg c_38_5) (Eq.trans (if_neg c_38_6) (Eq.trans (if_neg c_38_7) (Eq.trans (if_neg c_38_8) (Eq.trans (if_neg c_38_9) (if_neg c_38_10)))))))⟩
  · skip
    refine g_aload_n h 0 dX6_receive_15 rfl rfl ?_
    refine g_get (C := RX6) (T := TX6) (N := 29) h 4 (wat_M E _) rfl in_X6_receive_X6 (by decide) lk_X6_receive_19 rfl rfl dX6_receive_16 ?_
    refine g_iload_n h 3 dX6_receive_19 rfl rfl ?_
    refine g_iald (n := 64) h (wat_Y E _ (i := 3) (by decide)) (by omega) (by decide) dX6_receive_20 ?_
    refine g_goto h 30 dX6_receive_21 (by decide) ?_
    refine g_istore (lv' := [(0, _), (1, _), (2, _), (3, _), (4, _)]) h [1, 2, 3, 4, 0] dX6_receive_30 (by decide) rfl ?_
    refine g_aload_n h 0 dX6_receive_32 rfl rfl ?_
    refine g_get (C := RX6) (T := TX6) (N := 29) h 28 (wat_M E _) rfl in_X6_receive_X6 (by decide) lk_X6_receive_80 rfl rfl dX6_receive_33 ?_
    refine g_iconst (v := nI 0) h dX6_receive_36 (by decide) ?_
    refine g_iald (n := 7) h (wat_Y E _ (i := 23) (by decide)) (by omega) (by decide) dX6_receive_37 ?_
    by_cases c_38_5 : (x.AM 23 0) = nI 5
    · skip
      refine g_eqi c_38_5 ?_
      refine g_tableIn h 76 dX6_receive_38 (by decide) (by decide) (off := 38) (by decide) (by decide) ?_
      refine g_aload_n h 0 dX6_receive_76 rfl rfl ?_
      refine g_get (C := RX6) (T := TX6) (N := 29) h 14 (wat_M E _) rfl in_X6_receive_X6 (by decide) lk_X6_receive_47 rfl rfl dX6_receive_77 ?_
      refine g_iload_n h 1 dX6_receive_80 rfl rfl ?_
      refine g_iconst (v := nI 1) h dX6_receive_81 (by decide) ?_
      refine g_zast (n := 4) h (ws_Y E _ (i := 12) (by decide) _) (by omega) (by decide) dX6_receive_82 ?_
      refine g_aload_n h 0 dX6_receive_83 rfl rfl ?_
      refine g_get (C := RX6) (T := TX6) (N := 29) h 15 (wat_M E _) rfl in_X6_receive_X6 (by decide) lk_X6_receive_50 rfl rfl dX6_receive_84 ?_
      refine g_iload_n h 1 dX6_receive_87 rfl rfl ?_
      refine g_aload_n h 0 dX6_receive_88 rfl rfl ?_
      refine g_get (C := RX6) (T := TX6) (N := 29) h 28 (wat_M E _) rfl in_X6_receive_X6 (by decide) lk_X6_receive_80 rfl rfl dX6_receive_89 ?_
      refine g_iconst (v := nI 4) h dX6_receive_92 (by decide) ?_
      refine g_iald (n := 7) h (wat_Y E _ (i := 23) (by decide)) (by omega) (by decide) dX6_receive_93 ?_
      refine g_iast (n := 4) h (ws_Y E _ (i := 13) (by decide) _) (by omega) (by decide) dX6_receive_94 ?_
      refine g_aload_n h 0 dX6_receive_95 rfl rfl ?_
      refine g_get (C := RX6) (T := TX6) (N := 29) h 16 (wat_M E _) rfl in_X6_receive_X6 (by decide) lk_X6_receive_53 rfl rfl dX6_receive_96 ?_
      refine g_iload_n h 1 dX6_receive_99 rfl rfl ?_
      refine g_aload_n h 0 dX6_receive_100 rfl rfl ?_
      refine g_get (C := RX6) (T := TX6) (N := 29) h 28 (wat_M E _) rfl in_X6_receive_X6 (by decide) lk_X6_receive_80 rfl rfl dX6_receive_101 ?_
      refine g_iconst (v := nI 5) h dX6_receive_104 (by decide) ?_
      refine g_iald (n := 7) h (wat_Y E _ (i := 23) (by decide)) (by omega) (by decide) dX6_receive_105 ?_
      refine g_iast (n := 4) h (ws_Y E _ (i := 14) (by decide) _) (by omega) (by decide) dX6_receive_106 ?_
      refine g_aload_n h 0 dX6_receive_107 rfl rfl ?_
      refine g_iload_n h 1 dX6_receive_108 rfl rfl ?_
      refine g_callV (As := [.int (nI i)]) (C := RX6) h 1 (c_X6_complete l E _ i (by omega) (sOK_AM (sOK_AM (sOK_AM hs))) (by simp (disch := decide) only [AM_ne]; exact ho (by first | exact Or.inl c_38_5 | exact Or.inr (Or.inl c_38_6) | exact Or.inr (Or.inr c_38_7)))) rfl gX6_receive_X6_complete rfl rfl rfl rfl (by decide +kernel) ⟨Nat.le_of_ble_eq_true rfl, Nat.le_of_ble_eq_true rfl⟩ (wat_M E _) rfl rfl dX6_receive_109 ⟨Nat.le_refl _, Nat.le_refl _⟩ (Nat.le_of_ble_eq_true rfl) ?_
      rintro _ _ ⟨rfl, hy⟩
      obtain rfl := hy.symm
      dsimp only [Option.toList, List.cons_append, List.nil_append]
      refine g_goto h 249 dX6_receive_112 (by decide) ?_
      exact g_vret h hr hk dX6_receive_249 (Nat.zero_le _) (Nat.zero_le _) ⟨rfl, Eq.symm (Eq.trans (if_neg c_12) (if_pos c_38_5))⟩
    by_cases c_38_6 : (x.AM 23 0) = nI 6
    · skip
      refine g_eqi c_38_6 ?_
      refine g_tableIn h 76 dX6_receive_38 (by decide) (by decide) (off := 38) (by decide) (by decide) ?_
      refine g_aload_n h 0 dX6_receive_76 rfl rfl ?_
      refine g_get (C := RX6) (T := TX6) (N := 29) h 14 (wat_M E _) rfl in_X6_receive_X6 (by decide) lk_X6_receive_47 rfl rfl dX6_receive_77 ?_
      refine g_iload_n h 1 dX6_receive_80 rfl rfl ?_
      refine g_iconst (v := nI 1) h dX6_receive_81 (by decide) ?_
      refine g_zast (n := 4) h (ws_Y E _ (i := 12) (by decide) _) (by omega) (by decide) dX6_receive_82 ?_
      refine g_aload_n h 0 dX6_receive_83 rfl rfl ?_
      refine g_get (C := RX6) (T := TX6) (N := 29) h 15 (wat_M E _) rfl in_X6_receive_X6 (by decide) lk_X6_receive_50 rfl rfl dX6_receive_84 ?_
      refine g_iload_n h 1 dX6_receive_87 rfl rfl ?_
      refine g_aload_n h 0 dX6_receive_88 rfl rfl ?_
      refine g_get (C := RX6) (T := TX6) (N := 29) h 28 (wat_M E _) rfl in_X6_receive_X6 (by decide) lk_X6_receive_80 rfl rfl dX6_receive_89 ?_
      refine g_iconst (v := nI 4) h dX6_receive_92 (by decide) ?_
      refine g_iald (n := 7) h (wat_Y E _ (i := 23) (by decide)) (by omega) (by decide) dX6_receive_93 ?_
      refine g_iast (n := 4) h (ws_Y E _ (i := 13) (by decide) _) (by omega) (by decide) dX6_receive_94 ?_
      refine g_aload_n h 0 dX6_receive_95 rfl rfl ?_
      refine g_get (C := RX6) (T := TX6) (N := 29) h 16 (wat_M E _) rfl in_X6_receive_X6 (by decide) lk_X6_receive_53 rfl rfl dX6_receive_96 ?_
      refine g_iload_n h 1 dX6_receive_99 rfl rfl ?_
      refine g_aload_n h 0 dX6_receive_100 rfl rfl ?_
      refine g_get (C := RX6) (T := TX6) (N := 29) h 28 (wat_M E _) rfl in_X6_receive_X6 (by decide) lk_X6_receive_80 rfl rfl dX6_receive_101 ?_
      refine g_iconst (v := nI 5) h dX6_receive_104 (by decide) ?_
      refine g_iald (n := 7) h (wat_Y E _ (i := 23) (by decide)) (by omega) (by decide) dX6_receive_105 ?_
      refine g_iast (n := 4) h (ws_Y E _ (i := 14) (by decide) _) (by omega) (by decide) dX6_receive_106 ?_
      refine g_aload_n h 0 dX6_receive_107 rfl rfl ?_
      refine g_iload_n h 1 dX6_receive_108 rfl rfl ?_
      refine g_callV (As := [.int (nI i)]) (C := RX6) h 1 (c_X6_complete l E _ i (by omega) (sOK_AM (sOK_AM (sOK_AM hs))) (by simp (disch := decide) only [AM_ne]; exact ho (by first | exact Or.inl c_38_5 | exact Or.inr (Or.inl c_38_6) | exact Or.inr (Or.inr c_38_7)))) rfl gX6_receive_X6_complete rfl rfl rfl rfl (by decide +kernel) ⟨Nat.le_of_ble_eq_true rfl, Nat.le_of_ble_eq_true rfl⟩ (wat_M E _) rfl rfl dX6_receive_109 ⟨Nat.le_refl _, Nat.le_refl _⟩ (Nat.le_of_ble_eq_true rfl) ?_
      rintro _ _ ⟨rfl, hy⟩
      obtain rfl := hy.symm
      dsimp only [Option.toList, List.cons_append, List.nil_append]
      refine g_goto h 249 dX6_receive_112 (by decide) ?_
      exact g_vret h hr hk dX6_receive_249 (Nat.zero_le _) (Nat.zero_le _) ⟨rfl, Eq.symm (Eq.trans (if_neg c_12) (Eq.trans (if_neg c_38_5) (if_pos c_38_6)))⟩
    by_cases c_38_7 : (x.AM 23 0) = nI 7
    · skip
      refine g_eqi c_38_7 ?_
      refine g_tableIn h 115 dX6_receive_38 (by decide) (by decide) (off := 77) (by decide) (by decide) ?_
      refine g_aload_n h 0 dX6_receive_115 rfl rfl ?_
      refine g_get (C := RX6) (T := TX6) (N := 29) h 17 (wat_M E _) rfl in_X6_receive_X6 (by decide) lk_X6_receive_56 rfl rfl dX6_receive_116 ?_
      refine g_iload_n h 1 dX6_receive_119 rfl rfl ?_
      refine g_dup2 h dX6_receive_120 rfl rfl ?_
      refine g_iald (n := 4) h (wat_Y E _ (i := 15) (by decide)) (by omega) (by decide) dX6_receive_121 ?_
      refine g_iconst (v := nI 1) h dX6_receive_122 (by decide) ?_
      refine g_iadd h dX6_receive_123 ?_
      refine g_iast (n := 4) h (ws_Y E _ (i := 15) (by decide) _) (by omega) (by decide) dX6_receive_124 ?_
      refine g_aload_n h 0 dX6_receive_125 rfl rfl ?_
      refine g_iload_n h 1 dX6_receive_126 rfl rfl ?_
      refine g_callV (As := [.int (nI i)]) (C := RX6) h 1 (c_X6_complete l E _ i (by omega) (sOK_AM hs) (by simp (disch := decide) only [AM_ne]; exact ho (by first | exact Or.inl c_38_5 | exact Or.inr (Or.inl c_38_6) | exact Or.inr (Or.inr c_38_7)))) rfl gX6_receive_X6_complete rfl rfl rfl rfl (by decide +kernel) ⟨Nat.le_of_ble_eq_true rfl, Nat.le_of_ble_eq_true rfl⟩ (wat_M E _) rfl rfl dX6_receive_127 ⟨Nat.le_refl _, Nat.le_refl _⟩ (Nat.le_of_ble_eq_true rfl) ?_
      rintro _ _ ⟨rfl, hy⟩
      obtain rfl := hy.symm
      dsimp only [Option.toList, List.cons_append, List.nil_append]
      refine g_goto h 249 dX6_receive_130 (by decide) ?_
      exact g_vret h hr hk dX6_receive_249 (Nat.zero_le _) (Nat.zero_le _) ⟨rfl, Eq.symm (Eq.trans (if_neg c_12) (Eq.trans (if_neg c_38_5) (Eq.trans (if_neg c_38_6) (if_pos c_38_7))))⟩
    by_cases c_38_8 : (x.AM 23 0) = nI 8
    · skip
      refine g_eqi c_38_8 ?_
      refine g_tableIn h 133 dX6_receive_38 (by decide) (by decide) (off := 95) (by decide) (by decide) ?_
      refine g_aload_n h 0 dX6_receive_133 rfl rfl ?_
      refine g_iconst (v := nI 5) h dX6_receive_134 (by decide) ?_
      refine g_iload_n h 2 dX6_receive_135 rfl rfl ?_
      refine g_iload_n h 1 dX6_receive_136 rfl rfl ?_
      refine g_aload_n h 0 dX6_receive_137 rfl rfl ?_
      refine g_get (C := RX6) (T := TX6) (N := 29) h 28 (wat_M E _) rfl in_X6_receive_X6 (by decide) lk_X6_receive_80 rfl rfl dX6_receive_138 ?_
      refine g_bipush (v := nI 6) h dX6_receive_141 (by decide) ?_
      refine g_iald (n := 7) h (wat_Y E _ (i := 23) (by decide)) (by omega) (by decide) dX6_receive_143 ?_
      refine g_iload h 4 dX6_receive_144 rfl ?_
      refine g_iconst (v := nI 0) h dX6_receive_146 (by decide) ?_
      refine g_iconst (v := -1) h dX6_receive_147 (by decide) ?_
      refine g_callV (As := [.int (nI 5), .int (nI j), .int (nI i), .int _, .int _, .int (nI 0), .int _]) (C := RX6) h 7 (c_X6_send l E _ _ _ _ _ _ _ _ (sOK.mono (hs) (by omega))) rfl gX6_receive_X6_send rfl rfl rfl rfl (by decide +kernel) ⟨Nat.le_of_ble_eq_true rfl, Nat.le_of_ble_eq_true rfl⟩ (wat_M E _) rfl rfl dX6_receive_148 ⟨Nat.le_refl _, Nat.le_refl _⟩ (Nat.le_of_ble_eq_true rfl) ?_
      rintro _ _ ⟨rfl, hy⟩
      obtain rfl := hy.symm
      dsimp only [Option.toList, List.cons_append, List.nil_append]
      refine g_aload_n h 0 dX6_receive_151 rfl rfl ?_
      refine g_get (C := RX6) (T := TX6) (N := 29) h 3 (wat_M E _) rfl in_X6_receive_X6 (by decide) lk_X6_receive_16 rfl rfl dX6_receive_152 ?_
      refine g_iload_n h 3 dX6_receive_155 rfl rfl ?_
      refine g_iald (n := 64) h (wat_Y E _ (i := 2) (by decide)) (by omega) (by decide) dX6_receive_156 ?_
      refine g_iconst (v := nI 3) h dX6_receive_157 (by decide) ?_
      refine g_icmp_ne h 249 dX6_receive_158 (by decide) (fun c_158 => ?_) (fun c_158 => ?_)
      · skip
        exact g_vret h hr hk dX6_receive_249 (Nat.zero_le _) (Nat.zero_le _) ⟨rfl, Eq.symm (Eq.trans (if_neg c_12) (Eq.trans (if_neg c_38_5) (Eq.trans (if_neg c_38_6) (Eq.trans (if_neg c_38_7) (Eq.trans (if_pos c_38_8) (if_neg c_158))))))⟩
      · skip
        refine g_aload_n h 0 dX6_receive_161 rfl rfl ?_
        refine g_get (C := RX6) (T := TX6) (N := 29) h 3 (wat_M E _) rfl in_X6_receive_X6 (by decide) lk_X6_receive_16 rfl rfl dX6_receive_162 ?_
        refine g_iload_n h 3 dX6_receive_165 rfl rfl ?_
        refine g_iconst (v := nI 2) h dX6_receive_166 (by decide) ?_
        refine g_iast (n := 64) h (ws_Y E _ (i := 2) (by decide) _) (by omega) (by decide) dX6_receive_167 ?_
        refine g_goto h 249 dX6_receive_168 (by decide) ?_
        exact g_vret h hr hk dX6_receive_249 (Nat.zero_le _) (Nat.zero_le _) ⟨rfl, Eq.symm (Eq.trans (if_neg c_12) (Eq.trans (if_neg c_38_5) (Eq.trans (if_neg c_38_6) (Eq.trans (if_neg c_38_7) (Eq.trans (if_pos c_38_8) (if_pos c_158))))))⟩
    by_cases c_38_9 : (x.AM 23 0) = nI 9
    · skip
      refine g_eqi c_38_9 ?_
      refine g_tableIn h 171 dX6_receive_38 (by decide) (by decide) (off := 133) (by decide) (by decide) ?_
      refine g_aload_n h 0 dX6_receive_171 rfl rfl ?_
      refine g_iconst (v := nI 5) h dX6_receive_172 (by decide) ?_
      refine g_iload_n h 2 dX6_receive_173 rfl rfl ?_
      refine g_iload_n h 1 dX6_receive_174 rfl rfl ?_
      refine g_aload_n h 0 dX6_receive_175 rfl rfl ?_
      refine g_get (C := RX6) (T := TX6) (N := 29) h 28 (wat_M E _) rfl in_X6_receive_X6 (by decide) lk_X6_receive_80 rfl rfl dX6_receive_176 ?_
      refine g_bipush (v := nI 6) h dX6_receive_179 (by decide) ?_
      refine g_iald (n := 7) h (wat_Y E _ (i := 23) (by decide)) (by omega) (by decide) dX6_receive_181 ?_
      refine g_iload h 4 dX6_receive_182 rfl ?_
      refine g_aload_n h 0 dX6_receive_184 rfl rfl ?_
      refine g_get (C := RX6) (T := TX6) (N := 29) h 28 (wat_M E _) rfl in_X6_receive_X6 (by decide) lk_X6_receive_80 rfl rfl dX6_receive_185 ?_
      refine g_iconst (v := nI 5) h dX6_receive_188 (by decide) ?_
      refine g_iald (n := 7) h (wat_Y E _ (i := 23) (by decide)) (by omega) (by decide) dX6_receive_189 ?_
      refine g_iconst (v := -1) h dX6_receive_190 (by decide) ?_
      refine g_callV (As := [.int (nI 5), .int (nI j), .int (nI i), .int _, .int _, .int _, .int _]) (C := RX6) h 7 (c_X6_send l E _ _ _ _ _ _ _ _ (sOK.mono (hs) (by omega))) rfl gX6_receive_X6_send rfl rfl rfl rfl (by decide +kernel) ⟨Nat.le_of_ble_eq_true rfl, Nat.le_of_ble_eq_true rfl⟩ (wat_M E _) rfl rfl dX6_receive_191 ⟨Nat.le_refl _, Nat.le_refl _⟩ (Nat.le_of_ble_eq_true rfl) ?_
      rintro _ _ ⟨rfl, hy⟩
      obtain rfl := hy.symm
      dsimp only [Option.toList, List.cons_append, List.nil_append]
      refine g_aload_n h 0 dX6_receive_194 rfl rfl ?_
      refine g_get (C := RX6) (T := TX6) (N := 29) h 3 (wat_M E _) rfl in_X6_receive_X6 (by decide) lk_X6_receive_16 rfl rfl dX6_receive_195 ?_
      refine g_iload_n h 3 dX6_receive_198 rfl rfl ?_
      refine g_iconst (v := nI 0) h dX6_receive_199 (by decide) ?_
      refine g_iast (n := 64) h (ws_Y E _ (i := 2) (by decide) _) (by omega) (by decide) dX6_receive_200 ?_
      refine g_goto h 249 dX6_receive_201 (by decide) ?_
      exact g_vret h hr hk dX6_receive_249 (Nat.zero_le _) (Nat.zero_le _) ⟨rfl, Eq.symm (Eq.trans (if_neg c_12) (Eq.trans (if_neg c_38_5) (Eq.trans (if_neg c_38_6) (Eq.trans (if_neg c_38_7) (Eq.trans (if_neg c_38_8) (if_pos c_38_9))))))⟩
    by_cases c_38_10 : (x.AM 23 0) = nI 10
    · skip
      refine g_eqi c_38_10 ?_
      refine g_tableIn h 204 dX6_receive_38 (by decide) (by decide) (off := 166) (by decide) (by decide) ?_
      refine g_aload_n h 0 dX6_receive_204 rfl rfl ?_
      refine g_get (C := RX6) (T := TX6) (N := 29) h 3 (wat_M E _) rfl in_X6_receive_X6 (by decide) lk_X6_receive_16 rfl rfl dX6_receive_205 ?_
      refine g_iload_n h 3 dX6_receive_208 rfl rfl ?_
      refine g_iald (n := 64) h (wat_Y E _ (i := 2) (by decide)) (by omega) (by decide) dX6_receive_209 ?_
      refine g_iconst (v := nI 1) h dX6_receive_210 (by decide) ?_
      refine g_icmp_ne h 221 dX6_receive_211 (by decide) (fun c_211 => ?_) (fun c_211 => ?_)
      · skip
        refine g_aload_n h 0 dX6_receive_221 rfl rfl ?_
        refine g_bipush (v := nI 7) h dX6_receive_222 (by decide) ?_
        refine g_iload_n h 2 dX6_receive_224 rfl rfl ?_
        refine g_iload_n h 1 dX6_receive_225 rfl rfl ?_
        refine g_aload_n h 0 dX6_receive_226 rfl rfl ?_
        refine g_get (C := RX6) (T := TX6) (N := 29) h 28 (wat_M E _) rfl in_X6_receive_X6 (by decide) lk_X6_receive_80 rfl rfl dX6_receive_227 ?_
        refine g_bipush (v := nI 6) h dX6_receive_230 (by decide) ?_
        refine g_iald (n := 7) h (wat_Y E _ (i := 23) (by decide)) (by omega) (by decide) dX6_receive_232 ?_
        refine g_iconst (v := nI 0) h dX6_receive_233 (by decide) ?_
        refine g_iconst (v := nI 0) h dX6_receive_234 (by decide) ?_
        refine g_iconst (v := -1) h dX6_receive_235 (by decide) ?_
        refine g_callV (As := [.int (nI 7), .int (nI j), .int (nI i), .int _, .int (nI 0), .int (nI 0), .int _]) (C := RX6) h 7 (c_X6_send l E _ _ _ _ _ _ _ _ (sOK.mono (hs) (by omega))) rfl gX6_receive_X6_send rfl rfl rfl rfl (by decide +kernel) ⟨Nat.le_of_ble_eq_true rfl, Nat.le_of_ble_eq_true rfl⟩ (wat_M E _) rfl rfl dX6_receive_236 ⟨Nat.le_refl _, Nat.le_refl _⟩ (Nat.le_of_ble_eq_true rfl) ?_
        rintro _ _ ⟨rfl, hy⟩
        obtain rfl := hy.symm
        dsimp only [Option.toList, List.cons_append, List.nil_append]
        refine g_goto h 249 dX6_receive_239 (by decide) ?_
        exact g_vret h hr hk dX6_receive_249 (Nat.zero_le _) (Nat.zero_le _) ⟨rfl, Eq.symm (Eq.trans (if_neg c_12) (Eq.trans (if_neg c_38_5) (Eq.trans (if_neg c_38_6) (Eq.trans (if_neg c_38_7) (Eq.trans (if_neg c_38_8) (Eq.trans (if_neg c_38_9) (Eq.trans (if_pos c_38_10) (if_neg c_211))))))))⟩
      · skip
        refine g_aload_n h 0 dX6_receive_214 rfl rfl ?_
        refine g_get (C := RX6) (T := TX6) (N := 29) h 3 (wat_M E _) rfl in_X6_receive_X6 (by decide) lk_X6_receive_16 rfl rfl dX6_receive_215 ?_
        refine g_iload_n h 3 dX6_receive_218 rfl rfl ?_
        refine g_iconst (v := nI 0) h dX6_receive_219 (by decide) ?_
        refine g_iast (n := 64) h (ws_Y E _ (i := 2) (by decide) _) (by omega) (by decide) dX6_receive_220 ?_
        refine g_aload_n h 0 dX6_receive_221 rfl rfl ?_
        refine g_bipush (v := nI 7) h dX6_receive_222 (by decide) ?_
        refine g_iload_n h 2 dX6_receive_224 rfl rfl ?_
        refine g_iload_n h 1 dX6_receive_225 rfl rfl ?_
        refine g_aload_n h 0 dX6_receive_226 rfl rfl ?_
        refine g_get (C := RX6) (T := TX6) (N := 29) h 28 (wat_M E _) rfl in_X6_receive_X6 (by decide) lk_X6_receive_80 rfl rfl dX6_receive_227 ?_
        refine g_bipush (v := nI 6) h dX6_receive_230 (by decide) ?_
        refine g_iald (n := 7) h (wat_Y E _ (i := 23) (by decide)) (by omega) (by decide) dX6_receive_232 ?_
        refine g_iconst (v := nI 0) h dX6_receive_233 (by decide) ?_
        refine g_iconst (v := nI 0) h dX6_receive_234 (by decide) ?_
        refine g_iconst (v := -1) h dX6_receive_235 (by decide) ?_
        refine g_callV (As := [.int (nI 7), .int (nI j), .int (nI i), .int _, .int (nI 0), .int (nI 0), .int _]) (C := RX6) h 7 (c_X6_send l E _ _ _ _ _ _ _ _ (sOK.mono ((sOK_AM hs)) (by omega))) rfl gX6_receive_X6_send rfl rfl rfl rfl (by decide +kernel) ⟨Nat.le_of_ble_eq_true rfl, Nat.le_of_ble_eq_true rfl⟩ (wat_M E _) rfl rfl dX6_receive_236 ⟨Nat.le_refl _, Nat.le_refl _⟩ (Nat.le_of_ble_eq_true rfl) ?_
        rintro _ _ ⟨rfl, hy⟩
        obtain rfl := hy.symm
        dsimp only [Option.toList, List.cons_append, List.nil_append]
        refine g_goto h 249 dX6_receive_239 (by decide) ?_
        exact g_vret h hr hk dX6_receive_249 (Nat.zero_le _) (Nat.zero_le _) ⟨rfl, Eq.symm (Eq.trans (if_neg c_12) (Eq.trans (if_neg c_38_5) (Eq.trans (if_neg c_38_6) (Eq.trans (if_neg c_38_7) (Eq.trans (if_neg c_38_8) (Eq.trans (if_neg c_38_9) (Eq.trans (if_pos c_38_10) (if_pos c_211))))))))⟩
    have n_38_5 : ¬ (x.AM 23 0).toInt = 5 := lv_neT c_38_5 (by decide)
    have n_38_6 : ¬ (x.AM 23 0).toInt = 6 := lv_neT c_38_6 (by decide)
    have n_38_7 : ¬ (x.AM 23 0).toInt = 7 := lv_neT c_38_7 (by decide)
    have n_38_8 : ¬ (x.AM 23 0).toInt = 8 := lv_neT c_38_8 (by decide)
    have n_38_9 : ¬ (x.AM 23 0).toInt = 9 := lv_neT c_38_9 (by decide)
    have n_38_10 : ¬ (x.AM 23 0).toInt = 10 := lv_neT c_38_10 (by decide)
    refine g_tableOut h 242 dX6_receive_38 (by omega) (by decide) ?_
    refine g_aload_n h 0 dX6_receive_242 rfl rfl ?_
    refine g_get (C := RX6) (T := TX6) (N := 29) h 6 (wat_M E _) rfl in_X6_receive_X6 (by decide) lk_X6_receive_25 rfl rfl dX6_receive_243 ?_
    refine g_iload_n h 3 dX6_receive_246 rfl rfl ?_
    refine g_iconst (v := -1) h dX6_receive_247 (by decide) ?_
    refine g_iast (n := 64) h (ws_Y E _ (i := 5) (by decide) _) (by omega) (by decide) dX6_receive_248 ?_
    exact g_vret h hr hk dX6_receive_249 (Nat.zero_le _) (Nat.zero_le _) ⟨rfl, Eq.symm (Eq.trans (if_neg c_12) (Eq.trans (if_neg c_38_5) (Eq.trans (if_neg c_38_6) (Eq.trans (if_neg c_38_7) (Eq.trans (if_neg c_38_8) (Eq.trans (if_neg c_38_9) (if_neg c_38_10)))))))⟩
theorem in_X6_enqueue_X6 : ∀ w ∈ wsX60, w ∈ wsX6_enqueue := by decide +kernel
theorem lk_X6_enqueue_74 : Cond.fieldLink RX6 74 "CacheDirectoryModel" "queued" "[I" ∈ wsX6_enqueue := by decide +kernel
theorem lk_X6_enqueue_71 : Cond.fieldLink RX6 71 "CacheDirectoryModel" "queues" "[I" ∈ wsX6_enqueue := by decide +kernel
theorem lk_X6_enqueue_80 : Cond.fieldLink RX6 80 "CacheDirectoryModel" "now" "[I" ∈ wsX6_enqueue := by decide +kernel
def lp_X6_enqueue_17 (x : St) (j : Nat) (b17_0 : St) : Nat → St
  | 0 => b17_0
  | a17 + 1 =>
  let x2 := ((lp_X6_enqueue_17 x j b17_0 a17)).setAM 20 (upd (((lp_X6_enqueue_17 x j b17_0 a17)).AM 20) ((((40 * j) + (nat (x.AM 21 j))) * 7) + a17) (((lp_X6_enqueue_17 x j b17_0 a17)).AM 23 a17))
  x2
def s_X6_enqueue (x : St) (j : Nat) : St :=
  let x1 := ((lp_X6_enqueue_17 x j x 7)).setAM 21 (upd (((lp_X6_enqueue_17 x j x 7)).AM 21) j ((((lp_X6_enqueue_17 x j x 7)).AM 21 j) + (nI 1)))
  x1
set_option maxRecDepth 100000 in
set_option maxHeartbeats 400000 in
theorem c_X6_enqueue (l : Launch) (E : gE) (x : St) (j : Nat) (hj : j < 16) (hq : x.AM 21 j = nI (nat (x.AM 21 j)) ∧ nat (x.AM 21 j) < 40) : Ct l yX6_enqueue wsX6_enqueue { frames := 0, cells := 0, slots := 0, locals := 0 } E [.ref (aM E), .int (nI j)] x (fun v y => v = none ∧ y = s_X6_enqueue x j) 0 0 := by
  refine Ct.of (cc := cX6_enqueue) (nL := 4) (ret := none) (by decide) rfl (Nat.le_of_ble_eq_true rfl) ?_
  intro p e s m args below meth c h hr hk hname
  refine g_lvs (lv' := [(0, _), (1, _)]) rfl ?_
  have hq2 := hq.2
  refine g_bipush (v := nI 40) h dX6_enqueue_0 (by decide) ?_
  refine g_iload_n h 1 dX6_enqueue_2 rfl rfl ?_
  refine g_imulN h dX6_enqueue_3 ?_
  refine g_aload_n h 0 dX6_enqueue_4 rfl rfl ?_
  refine g_get (C := RX6) (T := TX6) (N := 29) h 23 (wat_M E _) rfl in_X6_enqueue_X6 (by decide) lk_X6_enqueue_74 rfl rfl dX6_enqueue_5 ?_
  refine g_iload_n h 1 dX6_enqueue_8 rfl rfl ?_
  refine g_iald (n := 16) h (wat_Y E _ (i := 21) (by decide)) (by omega) (by decide) dX6_enqueue_9 ?_
  refine g_eqi hq.1 ?_
  refine g_iaddN h dX6_enqueue_10 ?_
  refine g_bipush (v := nI 7) h dX6_enqueue_11 (by decide) ?_
  refine g_imulN h dX6_enqueue_13 ?_
  refine g_istore_n (lv' := [(0, _), (1, _), (2, _)]) h [1, 2, 0] dX6_enqueue_14 rfl (by decide) rfl ?_
  refine g_iconst (v := nI 0) h dX6_enqueue_15 (by decide) ?_
  refine g_istore_n (lv' := [(0, _), (1, _), (2, _), (3, _)]) h [1, 2, 3, 0] dX6_enqueue_16 rfl (by decide) rfl ?_
  have loop17 : ∀ (k17 a17 : Nat), (7) - a17 < k17 → a17 ≤ 7 → gG p l e ({ frames := 0, cells := 0, slots := 0, locals := 0 } : Room) s m args below meth c (gQ below E x s (fun v y => v = none ∧ y = s_X6_enqueue x j) args 0 0) E x 4 0 0 ((lp_X6_enqueue_17 x j x a17)) 17 [(0, .ref (aM E)), (1, .int (nI j)), (2, .int (nI (((40 * j) + (nat (x.AM 21 j))) * 7))), (3, .int (nI a17))] [] := by
    intro k17
    induction k17 with
    | zero => intro a17 hk17; exact absurd hk17 (by omega)
    | succ k17 ih17 =>
      intro a17 hk17 ha17
      refine g_iload_n h 3 dX6_enqueue_17 rfl rfl ?_
      refine g_bipush (v := nI 7) h dX6_enqueue_18 (by decide) ?_
      refine g_icmp_geN h 43 dX6_enqueue_20 (by decide) (by omega) (by omega) (fun c_20 => ?_) (fun c_20 => ?_)
      · skip
        obtain rfl : a17 = 7 := by omega
        refine g_aload_n h 0 dX6_enqueue_43 rfl rfl ?_
        refine g_get (C := RX6) (T := TX6) (N := 29) h 23 (wat_M E _) rfl in_X6_enqueue_X6 (by decide) lk_X6_enqueue_74 rfl rfl dX6_enqueue_44 ?_
        refine g_iload_n h 1 dX6_enqueue_47 rfl rfl ?_
        refine g_dup2 h dX6_enqueue_48 rfl rfl ?_
        refine g_iald (n := 16) h (wat_Y E _ (i := 21) (by decide)) (by omega) (by decide) dX6_enqueue_49 ?_
        refine g_iconst (v := nI 1) h dX6_enqueue_50 (by decide) ?_
        refine g_iadd h dX6_enqueue_51 ?_
        refine g_iast (n := 16) h (ws_Y E _ (i := 21) (by decide) _) (by omega) (by decide) dX6_enqueue_52 ?_
        exact g_vret h hr hk dX6_enqueue_53 (Nat.zero_le _) (Nat.zero_le _) ⟨rfl, Eq.symm rfl⟩
      · skip
        have hlt_20 : a17 < 7 := by omega
        refine g_aload_n h 0 dX6_enqueue_23 rfl rfl ?_
        refine g_get (C := RX6) (T := TX6) (N := 29) h 22 (wat_M E _) rfl in_X6_enqueue_X6 (by decide) lk_X6_enqueue_71 rfl rfl dX6_enqueue_24 ?_
        refine g_iload_n h 2 dX6_enqueue_27 rfl rfl ?_
        refine g_iload_n h 3 dX6_enqueue_28 rfl rfl ?_
        refine g_iaddN h dX6_enqueue_29 ?_
        refine g_aload_n h 0 dX6_enqueue_30 rfl rfl ?_
        refine g_get (C := RX6) (T := TX6) (N := 29) h 28 (wat_M E _) rfl in_X6_enqueue_X6 (by decide) lk_X6_enqueue_80 rfl rfl dX6_enqueue_31 ?_
        refine g_iload_n h 3 dX6_enqueue_34 rfl rfl ?_
        refine g_iald (n := 7) h (wat_Y E _ (i := 23) (by decide)) (by omega) (by decide) dX6_enqueue_35 ?_
        refine g_iast (n := 4480) h (ws_Y E _ (i := 20) (by decide) _) (by omega) (by decide) dX6_enqueue_36 ?_
        refine g_iinc (lv' := [(0, _), (1, _), (2, _), (3, .int (nI (a17 + 1)))]) h 3 [1, 2, 3, 0] dX6_enqueue_37 rfl (nI_add _ 1) (by decide) rfl ?_
        refine g_goto h 17 dX6_enqueue_40 (by decide) ?_
        have hb17 : lp_X6_enqueue_17 x j x (a17 + 1) = (((lp_X6_enqueue_17 x j x a17)).setAM 20 (upd (((lp_X6_enqueue_17 x j x a17)).AM 20) ((((40 * j) + (nat (x.AM 21 j))) * 7) + a17) (((lp_X6_enqueue_17 x j x a17)).AM 23 a17))) := rfl
        refine g_x (y := (lp_X6_enqueue_17 x j x (a17 + 1))) (by rw [hb17]) ?_
        exact ih17 (a17 + 1) (by omega) (by omega)
  exact loop17 (7 + 1) 0 (by omega) (by omega)
theorem in_X6_process_X6 : ∀ w ∈ wsX60, w ∈ wsX6_process := by decide +kernel
theorem lk_X6_process_62 : Cond.fieldLink RX6 62 "CacheDirectoryModel" "owners" "[I" ∈ wsX6_process := by decide +kernel
theorem lk_X6_process_80 : Cond.fieldLink RX6 80 "CacheDirectoryModel" "now" "[I" ∈ wsX6_process := by decide +kernel
theorem lk_X6_process_68 : Cond.fieldLink RX6 68 "CacheDirectoryModel" "isBusy" "[Z" ∈ wsX6_process := by decide +kernel
theorem lk_X6_process_65 : Cond.fieldLink RX6 65 "CacheDirectoryModel" "sharers" "[I" ∈ wsX6_process := by decide +kernel
theorem lk_X6_process_59 : Cond.fieldLink RX6 59 "CacheDirectoryModel" "memory" "[I" ∈ wsX6_process := by decide +kernel
theorem lk_X6_process_170 : Cond.fieldLink RX6 170 "CacheDirectoryModel" "late" "I" ∈ wsX6_process := by decide +kernel
theorem lk_X6_process_167 : Cond.fieldLink RX6 167 "CacheDirectoryModel" "writebacks" "I" ∈ wsX6_process := by decide +kernel
def lp_X6_process_163 (x : St) (j : Nat) (a : Int32) (b163_0 : Nat) (b163_1 : St) : Nat → Nat × St
  | 0 => (b163_0, b163_1)
  | a163 + 1 =>
  if (((((lp_X6_process_163 x j a b163_0 b163_1 a163).2).AM 18 j) >>> ((nI a163) &&& 31)) &&& (nI 1)) = 0 then
    ((lp_X6_process_163 x j a b163_0 b163_1 a163).1, (lp_X6_process_163 x j a b163_0 b163_1 a163).2)
  else
    if (nI a163) = a then
      ((lp_X6_process_163 x j a b163_0 b163_1 a163).1, (lp_X6_process_163 x j a b163_0 b163_1 a163).2)
    else
      if (nI a163) = (x.AM 17 j) then
        ((lp_X6_process_163 x j a b163_0 b163_1 a163).1, (lp_X6_process_163 x j a b163_0 b163_1 a163).2)
      else
        let x11 := s_X6_send ((lp_X6_process_163 x j a b163_0 b163_1 a163).2) (nI 10) (nI j) ((-1 : Int32)) (nI a163) (nI 0) (nI 0) a
        ((lp_X6_process_163 x j a b163_0 b163_1 a163).1 + 1, x11)
theorem sOK_lp_process {x y : St} {j b0 k : Nat} {c : Int32} (h : sOK y (k + 4)) : ∀ a, a ≤ 4 → sOK (lp_X6_process_163 x j c b0 y a).2 (k + (4 - a)) := by
  intro a
  induction a with
  | zero => intro _; exact h
  | succ a ih =>
    intro ha
    have ih := ih (by omega)
    unfold lp_X6_process_163
    repeat' split
    all_goals dsimp only
    all_goals first
      | (with_reducible refine ih.mono ?_; omega)
      | (with_reducible refine sOK_send _ _ _ _ _ _ _ (ih.mono ?_); omega)
theorem AM_lp_process {x y : St} {j b0 q : Nat} {c : Int32} (hq : q ≠ 22) : ∀ a, (lp_X6_process_163 x j c b0 y a).2.AM q = y.AM q := by
  intro a
  induction a with
  | zero => rfl
  | succ a ih =>
    unfold lp_X6_process_163
    repeat' split
    all_goals dsimp only
    all_goals first
      | with_reducible exact ih
      | with_reducible exact (send_AM hq).trans ih
def s_X6_process (x : St) (j : Nat) (a : Int32) : St :=
  if (x.AM 23 0) = (nI 3) then
    if (x.AM 17 j) = a then
      let x17 := x.setAM 16 (upd (x.AM 16) j (x.AM 23 4))
      let x18 := x17.setAM 17 (upd (x17.AM 17) j ((-1 : Int32)))
      let x19 := x18.setAM 18 (upd (x18.AM 18) j ((x18.AM 18 j) &&& (((nI 1) <<< (a &&& 31)) ^^^ ((-1 : Int32)))))
      let x20 := x19.setFM 2 ((x19.FM 2) + (nI 1))
      let x21 := s_X6_send x20 (nI 11) (nI j) ((-1 : Int32)) a (nI 0) (nI 0) ((-1 : Int32))
      x21
    else
      let x15 := x.setFM 3 ((x.FM 3) + (nI 1))
      let x16 := s_X6_send x15 (nI 11) (nI j) ((-1 : Int32)) a (nI 0) (nI 0) ((-1 : Int32))
      x16
  else
    let x1 := x.setAM 19 (upd (x.AM 19) j (vp_nar .boolean (nI 1)))
    if (x1.AM 23 0) = (nI 1) then
      let x12 := x1.setAM 18 (upd (x1.AM 18) j ((x1.AM 18 j) ||| ((nI 1) <<< (a &&& 31))))
      if (x.AM 17 j) = ((-1 : Int32)) then
        let x14 := s_X6_send x12 (nI 5) (nI j) ((-1 : Int32)) a (x12.AM 16 j) (nI 0) ((-1 : Int32))
        x14
      else
        let x13 := s_X6_send x12 (nI 8) (nI j) ((-1 : Int32)) (x.AM 17 j) (nI 0) (nI 0) a
        x13
    else
      if (x.AM 17 j) = ((-1 : Int32)) then
        let x8 := s_X6_send ((lp_X6_process_163 x j a 0 ((x.setAM 19 (upd (x.AM 19) j (vp_nar .boolean (nI 1))))) 4).2) (nI 5) (nI j) ((-1 : Int32)) a (((lp_X6_process_163 x j a 0 ((x.setAM 19 (upd (x.AM 19) j (vp_nar .boolean (nI 1))))) 4).2).AM 16 j) (nI ((lp_X6_process_163 x j a 0 ((x.setAM 19 (upd (x.AM 19) j (vp_nar .boolean (nI 1))))) 4).1)) ((-1 : Int32))
        let x9 := x8.setAM 17 (upd (x8.AM 17) j a)
        let x10 := x9.setAM 18 (upd (x9.AM 18) j (nI 0))
        x10
      else
        if (x.AM 17 j) = a then
          let x5 := s_X6_send ((lp_X6_process_163 x j a 0 ((x.setAM 19 (upd (x.AM 19) j (vp_nar .boolean (nI 1))))) 4).2) (nI 6) (nI j) ((-1 : Int32)) a (nI 0) (nI ((lp_X6_process_163 x j a 0 ((x.setAM 19 (upd (x.AM 19) j (vp_nar .boolean (nI 1))))) 4).1)) ((-1 : Int32))
          let x6 := x5.setAM 17 (upd (x5.AM 17) j a)
          let x7 := x6.setAM 18 (upd (x6.AM 18) j (nI 0))
          x7
        else
          let x2 := s_X6_send ((lp_X6_process_163 x j a 0 ((x.setAM 19 (upd (x.AM 19) j (vp_nar .boolean (nI 1))))) 4).2) (nI 9) (nI j) ((-1 : Int32)) (x.AM 17 j) (nI 0) (nI ((lp_X6_process_163 x j a 0 ((x.setAM 19 (upd (x.AM 19) j (vp_nar .boolean (nI 1))))) 4).1)) a
          let x3 := x2.setAM 17 (upd (x2.AM 17) j a)
          let x4 := x3.setAM 18 (upd (x3.AM 18) j (nI 0))
          x4
set_option maxRecDepth 100000 in
set_option maxHeartbeats 400000 in
theorem c_X6_process (l : Launch) (E : gE) (x : St) (j : Nat) (a : Int32) (hj : j < 16) (hs : sOK x 5) : Ct l yX6_process wsX6_process { frames := 1, cells := 0, slots := 0, locals := 28 } E [.ref (aM E), .int (nI j), .int a] x (fun v y => v = none ∧ y = s_X6_process x j a) 0 0 := by
  refine Ct.of (cc := cX6_process) (nL := 6) (ret := none) (by decide) rfl (Nat.le_of_ble_eq_true rfl) ?_
  intro p e s m args below meth c h hr hk hname
  refine g_lvs (lv' := [(0, _), (1, _), (2, _)]) rfl ?_
  refine g_aload_n h 0 dX6_process_0 rfl rfl ?_
  refine g_get (C := RX6) (T := TX6) (N := 29) h 19 (wat_M E _) rfl in_X6_process_X6 (by decide) lk_X6_process_62 rfl rfl dX6_process_1 ?_
  refine g_iload_n h 1 dX6_process_4 rfl rfl ?_
  refine g_iald (n := 16) h (wat_Y E _ (i := 17) (by decide)) (by omega) (by decide) dX6_process_5 ?_
  refine g_istore_n (lv' := [(0, _), (1, _), (2, _), (3, _)]) h [1, 2, 3, 0] dX6_process_6 rfl (by decide) rfl ?_
  refine g_aload_n h 0 dX6_process_7 rfl rfl ?_
  refine g_get (C := RX6) (T := TX6) (N := 29) h 28 (wat_M E _) rfl in_X6_process_X6 (by decide) lk_X6_process_80 rfl rfl dX6_process_8 ?_
  refine g_iconst (v := nI 0) h dX6_process_11 (by decide) ?_
  refine g_iald (n := 7) h (wat_Y E _ (i := 23) (by decide)) (by omega) (by decide) dX6_process_12 ?_
  refine g_iconst (v := nI 3) h dX6_process_13 (by decide) ?_
  refine g_icmp_ne h 91 dX6_process_14 (by decide) (fun c_14 => ?_) (fun c_14 => ?_)
  · skip
    refine g_aload_n h 0 dX6_process_91 rfl rfl ?_
    refine g_get (C := RX6) (T := TX6) (N := 29) h 21 (wat_M E _) rfl in_X6_process_X6 (by decide) lk_X6_process_68 rfl rfl dX6_process_92 ?_
    refine g_iload_n h 1 dX6_process_95 rfl rfl ?_
    refine g_iconst (v := nI 1) h dX6_process_96 (by decide) ?_
    refine g_zast (n := 16) h (ws_Y E _ (i := 19) (by decide) _) (by omega) (by decide) dX6_process_97 ?_
    refine g_aload_n h 0 dX6_process_98 rfl rfl ?_
    refine g_get (C := RX6) (T := TX6) (N := 29) h 28 (wat_M E _) rfl in_X6_process_X6 (by decide) lk_X6_process_80 rfl rfl dX6_process_99 ?_
    refine g_iconst (v := nI 0) h dX6_process_102 (by decide) ?_
    refine g_iald (n := 7) h (wat_Y E _ (i := 23) (by decide)) (by omega) (by decide) dX6_process_103 ?_
    refine g_iconst (v := nI 1) h dX6_process_104 (by decide) ?_
    refine g_icmp_ne h 157 dX6_process_105 (by decide) (fun c_105 => ?_) (fun c_105 => ?_)
    · skip
      refine g_iconst (v := nI 0) h dX6_process_157 (by decide) ?_
      refine g_istore (lv' := [(0, _), (1, _), (2, _), (3, _), (4, _)]) h [1, 2, 3, 4, 0] dX6_process_158 (by decide) rfl ?_
      refine g_iconst (v := nI 0) h dX6_process_160 (by decide) ?_
      refine g_istore (lv' := [(0, _), (1, _), (2, _), (3, _), (4, _), (5, _)]) h [1, 2, 3, 4, 5, 0] dX6_process_161 (by decide) rfl ?_
      have loop163 : ∀ (k163 a163 : Nat), (4) - a163 < k163 → a163 ≤ 4 → gG p l e ({ frames := 1, cells := 0, slots := 0, locals := 28 } : Room) s m args below meth c (gQ below E x s (fun v y => v = none ∧ y = s_X6_process x j a) args 0 0) E x 6 0 0 ((lp_X6_process_163 x j a 0 ((x.setAM 19 (upd (x.AM 19) j (vp_nar .boolean (nI 1))))) a163).2) 163 [(0, .ref (aM E)), (1, .int (nI j)), (2, .int a), (3, .int (x.AM 17 j)), (4, .int (nI ((lp_X6_process_163 x j a 0 ((x.setAM 19 (upd (x.AM 19) j (vp_nar .boolean (nI 1))))) a163).1))), (5, .int (nI a163))] [] := by
        intro k163
        induction k163 with
        | zero => intro a163 hk163; exact absurd hk163 (by omega)
        | succ k163 ih163 =>
          intro a163 hk163 ha163
          refine g_iload h 5 dX6_process_163 rfl ?_
          refine g_iconst (v := nI 4) h dX6_process_165 (by decide) ?_
          refine g_icmp_geN h 220 dX6_process_166 (by decide) (by omega) (by omega) (fun c_166 => ?_) (fun c_166 => ?_)
          · skip
            obtain rfl : a163 = 4 := by omega
            refine g_iload_n h 3 dX6_process_220 rfl rfl ?_
            refine g_iconst (v := -1) h dX6_process_221 (by decide) ?_
            refine g_icmp_ne h 245 dX6_process_222 (by decide) (fun c_222 => ?_) (fun c_222 => ?_)
            · skip
              refine g_iload_n h 3 dX6_process_245 rfl rfl ?_
              refine g_iload_n h 2 dX6_process_246 rfl rfl ?_
              refine g_icmp_ne h 266 dX6_process_247 (by decide) (fun c_247 => ?_) (fun c_247 => ?_)
              · skip
                refine g_aload_n h 0 dX6_process_266 rfl rfl ?_
                refine g_bipush (v := nI 9) h dX6_process_267 (by decide) ?_
                refine g_iload_n h 1 dX6_process_269 rfl rfl ?_
                refine g_iconst (v := -1) h dX6_process_270 (by decide) ?_
                refine g_iload_n h 3 dX6_process_271 rfl rfl ?_
                refine g_iconst (v := nI 0) h dX6_process_272 (by decide) ?_
                refine g_iload h 4 dX6_process_273 rfl ?_
                refine g_iload_n h 2 dX6_process_275 rfl rfl ?_
                refine g_callV (As := [.int (nI 9), .int (nI j), .int _, .int _, .int (nI 0), .int (nI ((lp_X6_process_163 x j a 0 ((x.setAM 19 (upd (x.AM 19) j (vp_nar .boolean (nI 1))))) 4).1)), .int _]) (C := RX6) h 7 (c_X6_send l E _ _ _ _ _ _ _ _ (sOK.mono ((sOK_lp_process (k := 1) (sOK_AM hs) 4 (by omega))) (by omega))) rfl gX6_process_X6_send rfl rfl rfl rfl (by decide +kernel) ⟨Nat.le_of_ble_eq_true rfl, Nat.le_of_ble_eq_true rfl⟩ (wat_M E _) rfl rfl dX6_process_276 ⟨Nat.le_refl _, Nat.le_refl _⟩ (Nat.le_of_ble_eq_true rfl) ?_
                rintro _ _ ⟨rfl, hy⟩
                obtain rfl := hy.symm
                dsimp only [Option.toList, List.cons_append, List.nil_append]
                refine g_aload_n h 0 dX6_process_279 rfl rfl ?_
                refine g_get (C := RX6) (T := TX6) (N := 29) h 19 (wat_M E _) rfl in_X6_process_X6 (by decide) lk_X6_process_62 rfl rfl dX6_process_280 ?_
                refine g_iload_n h 1 dX6_process_283 rfl rfl ?_
                refine g_iload_n h 2 dX6_process_284 rfl rfl ?_
                refine g_iast (n := 16) h (ws_Y E _ (i := 17) (by decide) _) (by omega) (by decide) dX6_process_285 ?_
                refine g_aload_n h 0 dX6_process_286 rfl rfl ?_
                refine g_get (C := RX6) (T := TX6) (N := 29) h 20 (wat_M E _) rfl in_X6_process_X6 (by decide) lk_X6_process_65 rfl rfl dX6_process_287 ?_
                refine g_iload_n h 1 dX6_process_290 rfl rfl ?_
                refine g_iconst (v := nI 0) h dX6_process_291 (by decide) ?_
                refine g_iast (n := 16) h (ws_Y E _ (i := 18) (by decide) _) (by omega) (by decide) dX6_process_292 ?_
                exact g_vret h hr hk dX6_process_293 (Nat.zero_le _) (Nat.zero_le _) ⟨rfl, Eq.symm (Eq.trans (if_neg c_14) (Eq.trans (if_neg c_105) (Eq.trans (if_neg c_222) (if_neg c_247))))⟩
              · skip
                refine g_aload_n h 0 dX6_process_250 rfl rfl ?_
                refine g_bipush (v := nI 6) h dX6_process_251 (by decide) ?_
                refine g_iload_n h 1 dX6_process_253 rfl rfl ?_
                refine g_iconst (v := -1) h dX6_process_254 (by decide) ?_
                refine g_iload_n h 2 dX6_process_255 rfl rfl ?_
                refine g_iconst (v := nI 0) h dX6_process_256 (by decide) ?_
                refine g_iload h 4 dX6_process_257 rfl ?_
                refine g_iconst (v := -1) h dX6_process_259 (by decide) ?_
                refine g_callV (As := [.int (nI 6), .int (nI j), .int _, .int _, .int (nI 0), .int (nI ((lp_X6_process_163 x j a 0 ((x.setAM 19 (upd (x.AM 19) j (vp_nar .boolean (nI 1))))) 4).1)), .int _]) (C := RX6) h 7 (c_X6_send l E _ _ _ _ _ _ _ _ (sOK.mono ((sOK_lp_process (k := 1) (sOK_AM hs) 4 (by omega))) (by omega))) rfl gX6_process_X6_send rfl rfl rfl rfl (by decide +kernel) ⟨Nat.le_of_ble_eq_true rfl, Nat.le_of_ble_eq_true rfl⟩ (wat_M E _) rfl rfl dX6_process_260 ⟨Nat.le_refl _, Nat.le_refl _⟩ (Nat.le_of_ble_eq_true rfl) ?_
                rintro _ _ ⟨rfl, hy⟩
                obtain rfl := hy.symm
                dsimp only [Option.toList, List.cons_append, List.nil_append]
                refine g_goto h 279 dX6_process_263 (by decide) ?_
                refine g_aload_n h 0 dX6_process_279 rfl rfl ?_
                refine g_get (C := RX6) (T := TX6) (N := 29) h 19 (wat_M E _) rfl in_X6_process_X6 (by decide) lk_X6_process_62 rfl rfl dX6_process_280 ?_
                refine g_iload_n h 1 dX6_process_283 rfl rfl ?_
                refine g_iload_n h 2 dX6_process_284 rfl rfl ?_
                refine g_iast (n := 16) h (ws_Y E _ (i := 17) (by decide) _) (by omega) (by decide) dX6_process_285 ?_
                refine g_aload_n h 0 dX6_process_286 rfl rfl ?_
                refine g_get (C := RX6) (T := TX6) (N := 29) h 20 (wat_M E _) rfl in_X6_process_X6 (by decide) lk_X6_process_65 rfl rfl dX6_process_287 ?_
                refine g_iload_n h 1 dX6_process_290 rfl rfl ?_
                refine g_iconst (v := nI 0) h dX6_process_291 (by decide) ?_
                refine g_iast (n := 16) h (ws_Y E _ (i := 18) (by decide) _) (by omega) (by decide) dX6_process_292 ?_
                exact g_vret h hr hk dX6_process_293 (Nat.zero_le _) (Nat.zero_le _) ⟨rfl, Eq.symm (Eq.trans (if_neg c_14) (Eq.trans (if_neg c_105) (Eq.trans (if_neg c_222) (if_pos c_247))))⟩
            · skip
              refine g_aload_n h 0 dX6_process_225 rfl rfl ?_
              refine g_iconst (v := nI 5) h dX6_process_226 (by decide) ?_
              refine g_iload_n h 1 dX6_process_227 rfl rfl ?_
              refine g_iconst (v := -1) h dX6_process_228 (by decide) ?_
              refine g_iload_n h 2 dX6_process_229 rfl rfl ?_
              refine g_aload_n h 0 dX6_process_230 rfl rfl ?_
              refine g_get (C := RX6) (T := TX6) (N := 29) h 18 (wat_M E _) rfl in_X6_process_X6 (by decide) lk_X6_process_59 rfl rfl dX6_process_231 ?_
              refine g_iload_n h 1 dX6_process_234 rfl rfl ?_
              refine g_iald (n := 16) h (wat_Y E _ (i := 16) (by decide)) (by omega) (by decide) dX6_process_235 ?_
              refine g_iload h 4 dX6_process_236 rfl ?_
              refine g_iconst (v := -1) h dX6_process_238 (by decide) ?_
              refine g_callV (As := [.int (nI 5), .int (nI j), .int _, .int _, .int _, .int (nI ((lp_X6_process_163 x j a 0 ((x.setAM 19 (upd (x.AM 19) j (vp_nar .boolean (nI 1))))) 4).1)), .int _]) (C := RX6) h 7 (c_X6_send l E _ _ _ _ _ _ _ _ (sOK.mono ((sOK_lp_process (k := 1) (sOK_AM hs) 4 (by omega))) (by omega))) rfl gX6_process_X6_send rfl rfl rfl rfl (by decide +kernel) ⟨Nat.le_of_ble_eq_true rfl, Nat.le_of_ble_eq_true rfl⟩ (wat_M E _) rfl rfl dX6_process_239 ⟨Nat.le_refl _, Nat.le_refl _⟩ (Nat.le_of_ble_eq_true rfl) ?_
              rintro _ _ ⟨rfl, hy⟩
              obtain rfl := hy.symm
              dsimp only [Option.toList, List.cons_append, List.nil_append]
              refine g_goto h 279 dX6_process_242 (by decide) ?_
              refine g_aload_n h 0 dX6_process_279 rfl rfl ?_
              refine g_get (C := RX6) (T := TX6) (N := 29) h 19 (wat_M E _) rfl in_X6_process_X6 (by decide) lk_X6_process_62 rfl rfl dX6_process_280 ?_
              refine g_iload_n h 1 dX6_process_283 rfl rfl ?_
              refine g_iload_n h 2 dX6_process_284 rfl rfl ?_
              refine g_iast (n := 16) h (ws_Y E _ (i := 17) (by decide) _) (by omega) (by decide) dX6_process_285 ?_
              refine g_aload_n h 0 dX6_process_286 rfl rfl ?_
              refine g_get (C := RX6) (T := TX6) (N := 29) h 20 (wat_M E _) rfl in_X6_process_X6 (by decide) lk_X6_process_65 rfl rfl dX6_process_287 ?_
              refine g_iload_n h 1 dX6_process_290 rfl rfl ?_
              refine g_iconst (v := nI 0) h dX6_process_291 (by decide) ?_
              refine g_iast (n := 16) h (ws_Y E _ (i := 18) (by decide) _) (by omega) (by decide) dX6_process_292 ?_
              exact g_vret h hr hk dX6_process_293 (Nat.zero_le _) (Nat.zero_le _) ⟨rfl, Eq.symm (Eq.trans (if_neg c_14) (Eq.trans (if_neg c_105) (if_pos c_222)))⟩
          · skip
            have hlt_166 : a163 < 4 := by omega
            refine g_aload_n h 0 dX6_process_169 rfl rfl ?_
            refine g_get (C := RX6) (T := TX6) (N := 29) h 20 (wat_M E _) rfl in_X6_process_X6 (by decide) lk_X6_process_65 rfl rfl dX6_process_170 ?_
            refine g_iload_n h 1 dX6_process_173 rfl rfl ?_
            refine g_iald (n := 16) h (wat_Y E _ (i := 18) (by decide)) (by omega) (by decide) dX6_process_174 ?_
            refine g_iload h 5 dX6_process_175 rfl ?_
            refine g_ishr h dX6_process_177 ?_
            refine g_iconst (v := nI 1) h dX6_process_178 (by decide) ?_
            refine g_iand h dX6_process_179 ?_
            refine g_if_eq h 214 dX6_process_180 (by decide) (fun c_180 => ?_) (fun c_180 => ?_)
            · skip
              refine g_iinc (lv' := [(0, _), (1, _), (2, _), (3, _), (4, _), (5, .int (nI (a163 + 1)))]) h 5 [1, 2, 3, 4, 5, 0] dX6_process_214 rfl (nI_add _ 1) (by decide) rfl ?_
              refine g_goto h 163 dX6_process_217 (by decide) ?_
              have hb163 : lp_X6_process_163 x j a 0 ((x.setAM 19 (upd (x.AM 19) j (vp_nar .boolean (nI 1))))) (a163 + 1) = (_, _) := (if_pos c_180)
              refine g_lvs (lv' := [(0, .ref (aM E)), (1, .int (nI j)), (2, .int a), (3, .int (x.AM 17 j)), (4, .int (nI ((lp_X6_process_163 x j a 0 ((x.setAM 19 (upd (x.AM 19) j (vp_nar .boolean (nI 1))))) (a163 + 1)).1))), (5, .int (nI (a163 + 1)))]) (by rw [hb163]) ?_
              refine g_x (y := (lp_X6_process_163 x j a 0 ((x.setAM 19 (upd (x.AM 19) j (vp_nar .boolean (nI 1))))) (a163 + 1)).2) (by rw [hb163]) ?_
              exact ih163 (a163 + 1) (by omega) (by omega)
            · skip
              refine g_iload h 5 dX6_process_183 rfl ?_
              refine g_iload_n h 2 dX6_process_185 rfl rfl ?_
              refine g_icmp_eq h 214 dX6_process_186 (by decide) (fun c_186 => ?_) (fun c_186 => ?_)
              · skip
                refine g_iinc (lv' := [(0, _), (1, _), (2, _), (3, _), (4, _), (5, .int (nI (a163 + 1)))]) h 5 [1, 2, 3, 4, 5, 0] dX6_process_214 rfl (nI_add _ 1) (by decide) rfl ?_
                refine g_goto h 163 dX6_process_217 (by decide) ?_
                have hb163 : lp_X6_process_163 x j a 0 ((x.setAM 19 (upd (x.AM 19) j (vp_nar .boolean (nI 1))))) (a163 + 1) = (_, _) := (Eq.trans (if_neg c_180) (if_pos c_186))
                refine g_lvs (lv' := [(0, .ref (aM E)), (1, .int (nI j)), (2, .int a), (3, .int (x.AM 17 j)), (4, .int (nI ((lp_X6_process_163 x j a 0 ((x.setAM 19 (upd (x.AM 19) j (vp_nar .boolean (nI 1))))) (a163 + 1)).1))), (5, .int (nI (a163 + 1)))]) (by rw [hb163]) ?_
                refine g_x (y := (lp_X6_process_163 x j a 0 ((x.setAM 19 (upd (x.AM 19) j (vp_nar .boolean (nI 1))))) (a163 + 1)).2) (by rw [hb163]) ?_
                exact ih163 (a163 + 1) (by omega) (by omega)
              · skip
                refine g_iload h 5 dX6_process_189 rfl ?_
                refine g_iload_n h 3 dX6_process_191 rfl rfl ?_
                refine g_icmp_ne h 198 dX6_process_192 (by decide) (fun c_192 => ?_) (fun c_192 => ?_)
                · skip
                  refine g_aload_n h 0 dX6_process_198 rfl rfl ?_
                  refine g_bipush (v := nI 10) h dX6_process_199 (by decide) ?_
                  refine g_iload_n h 1 dX6_process_201 rfl rfl ?_
                  refine g_iconst (v := -1) h dX6_process_202 (by decide) ?_
                  refine g_iload h 5 dX6_process_203 rfl ?_
                  refine g_iconst (v := nI 0) h dX6_process_205 (by decide) ?_
                  refine g_iconst (v := nI 0) h dX6_process_206 (by decide) ?_
                  refine g_iload_n h 2 dX6_process_207 rfl rfl ?_
                  refine g_callV (As := [.int (nI 10), .int (nI j), .int _, .int (nI a163), .int (nI 0), .int (nI 0), .int _]) (C := RX6) h 7 (c_X6_send l E _ _ _ _ _ _ _ _ (sOK.mono ((sOK_lp_process (k := 1) (sOK_AM hs) a163 (by omega))) (by omega))) rfl gX6_process_X6_send rfl rfl rfl rfl (by decide +kernel) ⟨Nat.le_of_ble_eq_true rfl, Nat.le_of_ble_eq_true rfl⟩ (wat_M E _) rfl rfl dX6_process_208 ⟨Nat.le_refl _, Nat.le_refl _⟩ (Nat.le_of_ble_eq_true rfl) ?_
                  rintro _ _ ⟨rfl, hy⟩
                  obtain rfl := hy.symm
                  dsimp only [Option.toList, List.cons_append, List.nil_append]
                  refine g_iinc (lv' := [(0, _), (1, _), (2, _), (3, _), (4, .int (nI ((lp_X6_process_163 x j a 0 ((x.setAM 19 (upd (x.AM 19) j (vp_nar .boolean (nI 1))))) a163).1 + 1))), (5, _)]) h 4 [1, 2, 3, 4, 0, 5] dX6_process_211 rfl (nI_add _ 1) (by decide) rfl ?_
                  refine g_iinc (lv' := [(0, _), (1, _), (2, _), (3, _), (4, _), (5, .int (nI (a163 + 1)))]) h 5 [1, 2, 3, 4, 5, 0] dX6_process_214 rfl (nI_add _ 1) (by decide) rfl ?_
                  refine g_goto h 163 dX6_process_217 (by decide) ?_
                  have hb163 : lp_X6_process_163 x j a 0 ((x.setAM 19 (upd (x.AM 19) j (vp_nar .boolean (nI 1))))) (a163 + 1) = (_, _) := (Eq.trans (if_neg c_180) (Eq.trans (if_neg c_186) (if_neg c_192)))
                  refine g_lvs (lv' := [(0, .ref (aM E)), (1, .int (nI j)), (2, .int a), (3, .int (x.AM 17 j)), (4, .int (nI ((lp_X6_process_163 x j a 0 ((x.setAM 19 (upd (x.AM 19) j (vp_nar .boolean (nI 1))))) (a163 + 1)).1))), (5, .int (nI (a163 + 1)))]) (by rw [hb163]) ?_
                  refine g_x (y := (lp_X6_process_163 x j a 0 ((x.setAM 19 (upd (x.AM 19) j (vp_nar .boolean (nI 1))))) (a163 + 1)).2) (by rw [hb163]) ?_
                  exact ih163 (a163 + 1) (by omega) (by omega)
                · skip
                  refine g_goto h 214 dX6_process_195 (by decide) ?_
                  refine g_iinc (lv' := [(0, _), (1, _), (2, _), (3, _), (4, _), (5, .int (nI (a163 + 1)))]) h 5 [1, 2, 3, 4, 5, 0] dX6_process_214 rfl (nI_add _ 1) (by decide) rfl ?_
                  refine g_goto h 163 dX6_process_217 (by decide) ?_
                  have hb163 : lp_X6_process_163 x j a 0 ((x.setAM 19 (upd (x.AM 19) j (vp_nar .boolean (nI 1))))) (a163 + 1) = (_, _) := (Eq.trans (if_neg c_180) (Eq.trans (if_neg c_186) (if_pos c_192)))
                  refine g_lvs (lv' := [(0, .ref (aM E)), (1, .int (nI j)), (2, .int a), (3, .int (x.AM 17 j)), (4, .int (nI ((lp_X6_process_163 x j a 0 ((x.setAM 19 (upd (x.AM 19) j (vp_nar .boolean (nI 1))))) (a163 + 1)).1))), (5, .int (nI (a163 + 1)))]) (by rw [hb163]) ?_
                  refine g_x (y := (lp_X6_process_163 x j a 0 ((x.setAM 19 (upd (x.AM 19) j (vp_nar .boolean (nI 1))))) (a163 + 1)).2) (by rw [hb163]) ?_
                  exact ih163 (a163 + 1) (by omega) (by omega)
      exact loop163 (4 + 1) 0 (by omega) (by omega)
    · skip
      refine g_aload_n h 0 dX6_process_108 rfl rfl ?_
      refine g_get (C := RX6) (T := TX6) (N := 29) h 20 (wat_M E _) rfl in_X6_process_X6 (by decide) lk_X6_process_65 rfl rfl dX6_process_109 ?_
      refine g_iload_n h 1 dX6_process_112 rfl rfl ?_
      refine g_dup2 h dX6_process_113 rfl rfl ?_
      refine g_iald (n := 16) h (wat_Y E _ (i := 18) (by decide)) (by omega) (by decide) dX6_process_114 ?_
      refine g_iconst (v := nI 1) h dX6_process_115 (by decide) ?_
      refine g_iload_n h 2 dX6_process_116 rfl rfl ?_
      refine g_ishl h dX6_process_117 ?_
      refine g_ior h dX6_process_118 ?_
      refine g_iast (n := 16) h (ws_Y E _ (i := 18) (by decide) _) (by omega) (by decide) dX6_process_119 ?_
      refine g_iload_n h 3 dX6_process_120 rfl rfl ?_
      refine g_iconst (v := -1) h dX6_process_121 (by decide) ?_
      refine g_icmp_ne h 144 dX6_process_122 (by decide) (fun c_122 => ?_) (fun c_122 => ?_)
      · skip
        refine g_aload_n h 0 dX6_process_144 rfl rfl ?_
        refine g_bipush (v := nI 8) h dX6_process_145 (by decide) ?_
        refine g_iload_n h 1 dX6_process_147 rfl rfl ?_
        refine g_iconst (v := -1) h dX6_process_148 (by decide) ?_
        refine g_iload_n h 3 dX6_process_149 rfl rfl ?_
        refine g_iconst (v := nI 0) h dX6_process_150 (by decide) ?_
        refine g_iconst (v := nI 0) h dX6_process_151 (by decide) ?_
        refine g_iload_n h 2 dX6_process_152 rfl rfl ?_
        refine g_callV (As := [.int (nI 8), .int (nI j), .int _, .int _, .int (nI 0), .int (nI 0), .int _]) (C := RX6) h 7 (c_X6_send l E _ _ _ _ _ _ _ _ (sOK.mono ((sOK_AM (sOK_AM hs))) (by omega))) rfl gX6_process_X6_send rfl rfl rfl rfl (by decide +kernel) ⟨Nat.le_of_ble_eq_true rfl, Nat.le_of_ble_eq_true rfl⟩ (wat_M E _) rfl rfl dX6_process_153 ⟨Nat.le_refl _, Nat.le_refl _⟩ (Nat.le_of_ble_eq_true rfl) ?_
        rintro _ _ ⟨rfl, hy⟩
        obtain rfl := hy.symm
        dsimp only [Option.toList, List.cons_append, List.nil_append]
        exact g_vret h hr hk dX6_process_156 (Nat.zero_le _) (Nat.zero_le _) ⟨rfl, Eq.symm (Eq.trans (if_neg c_14) (Eq.trans (if_pos c_105) (if_neg c_122)))⟩
      · skip
        refine g_aload_n h 0 dX6_process_125 rfl rfl ?_
        refine g_iconst (v := nI 5) h dX6_process_126 (by decide) ?_
        refine g_iload_n h 1 dX6_process_127 rfl rfl ?_
        refine g_iconst (v := -1) h dX6_process_128 (by decide) ?_
        refine g_iload_n h 2 dX6_process_129 rfl rfl ?_
        refine g_aload_n h 0 dX6_process_130 rfl rfl ?_
        refine g_get (C := RX6) (T := TX6) (N := 29) h 18 (wat_M E _) rfl in_X6_process_X6 (by decide) lk_X6_process_59 rfl rfl dX6_process_131 ?_
        refine g_iload_n h 1 dX6_process_134 rfl rfl ?_
        refine g_iald (n := 16) h (wat_Y E _ (i := 16) (by decide)) (by omega) (by decide) dX6_process_135 ?_
        refine g_iconst (v := nI 0) h dX6_process_136 (by decide) ?_
        refine g_iconst (v := -1) h dX6_process_137 (by decide) ?_
        refine g_callV (As := [.int (nI 5), .int (nI j), .int _, .int _, .int _, .int (nI 0), .int _]) (C := RX6) h 7 (c_X6_send l E _ _ _ _ _ _ _ _ (sOK.mono ((sOK_AM (sOK_AM hs))) (by omega))) rfl gX6_process_X6_send rfl rfl rfl rfl (by decide +kernel) ⟨Nat.le_of_ble_eq_true rfl, Nat.le_of_ble_eq_true rfl⟩ (wat_M E _) rfl rfl dX6_process_138 ⟨Nat.le_refl _, Nat.le_refl _⟩ (Nat.le_of_ble_eq_true rfl) ?_
        rintro _ _ ⟨rfl, hy⟩
        obtain rfl := hy.symm
        dsimp only [Option.toList, List.cons_append, List.nil_append]
        refine g_goto h 156 dX6_process_141 (by decide) ?_
        exact g_vret h hr hk dX6_process_156 (Nat.zero_le _) (Nat.zero_le _) ⟨rfl, Eq.symm (Eq.trans (if_neg c_14) (Eq.trans (if_pos c_105) (if_pos c_122)))⟩
  · skip
    refine g_iload_n h 3 dX6_process_17 rfl rfl ?_
    refine g_iload_n h 2 dX6_process_18 rfl rfl ?_
    refine g_icmp_ne h 68 dX6_process_19 (by decide) (fun c_19 => ?_) (fun c_19 => ?_)
    · skip
      refine g_aload_n h 0 dX6_process_68 rfl rfl ?_
      refine g_dup h dX6_process_69 rfl ?_
      refine g_get (C := RX6) (T := TX6) (N := 29) h 25 (wat_M E _) rfl in_X6_process_X6 (by decide) lk_X6_process_170 rfl rfl dX6_process_70 ?_
      refine g_iconst (v := nI 1) h dX6_process_73 (by decide) ?_
      refine g_iadd h dX6_process_74 ?_
      refine g_put (C := RX6) (T := TX6) (N := 29) h 25 tyX6 (ws_M3 E _ _) rfl in_X6_process_X6 tyX6_ok nmX6 (by decide) lk_X6_process_170 rfl rfl rfl rfl rfl (Nat.le_of_ble_eq_true rfl) dX6_process_75 ?_
      refine g_aload_n h 0 dX6_process_78 rfl rfl ?_
      refine g_bipush (v := nI 11) h dX6_process_79 (by decide) ?_
      refine g_iload_n h 1 dX6_process_81 rfl rfl ?_
      refine g_iconst (v := -1) h dX6_process_82 (by decide) ?_
      refine g_iload_n h 2 dX6_process_83 rfl rfl ?_
      refine g_iconst (v := nI 0) h dX6_process_84 (by decide) ?_
      refine g_iconst (v := nI 0) h dX6_process_85 (by decide) ?_
      refine g_iconst (v := -1) h dX6_process_86 (by decide) ?_
      refine g_callV (As := [.int (nI 11), .int (nI j), .int _, .int _, .int (nI 0), .int (nI 0), .int _]) (C := RX6) h 7 (c_X6_send l E _ _ _ _ _ _ _ _ (sOK.mono ((sOK_FM (by decide) hs)) (by omega))) rfl gX6_process_X6_send rfl rfl rfl rfl (by decide +kernel) ⟨Nat.le_of_ble_eq_true rfl, Nat.le_of_ble_eq_true rfl⟩ (wat_M E _) rfl rfl dX6_process_87 ⟨Nat.le_refl _, Nat.le_refl _⟩ (Nat.le_of_ble_eq_true rfl) ?_
      rintro _ _ ⟨rfl, hy⟩
      obtain rfl := hy.symm
      dsimp only [Option.toList, List.cons_append, List.nil_append]
      exact g_vret h hr hk dX6_process_90 (Nat.zero_le _) (Nat.zero_le _) ⟨rfl, Eq.symm (Eq.trans (if_pos c_14) (if_neg c_19))⟩
    · skip
      refine g_aload_n h 0 dX6_process_22 rfl rfl ?_
      refine g_get (C := RX6) (T := TX6) (N := 29) h 18 (wat_M E _) rfl in_X6_process_X6 (by decide) lk_X6_process_59 rfl rfl dX6_process_23 ?_
      refine g_iload_n h 1 dX6_process_26 rfl rfl ?_
      refine g_aload_n h 0 dX6_process_27 rfl rfl ?_
      refine g_get (C := RX6) (T := TX6) (N := 29) h 28 (wat_M E _) rfl in_X6_process_X6 (by decide) lk_X6_process_80 rfl rfl dX6_process_28 ?_
      refine g_iconst (v := nI 4) h dX6_process_31 (by decide) ?_
      refine g_iald (n := 7) h (wat_Y E _ (i := 23) (by decide)) (by omega) (by decide) dX6_process_32 ?_
      refine g_iast (n := 16) h (ws_Y E _ (i := 16) (by decide) _) (by omega) (by decide) dX6_process_33 ?_
      refine g_aload_n h 0 dX6_process_34 rfl rfl ?_
      refine g_get (C := RX6) (T := TX6) (N := 29) h 19 (wat_M E _) rfl in_X6_process_X6 (by decide) lk_X6_process_62 rfl rfl dX6_process_35 ?_
      refine g_iload_n h 1 dX6_process_38 rfl rfl ?_
      refine g_iconst (v := -1) h dX6_process_39 (by decide) ?_
      refine g_iast (n := 16) h (ws_Y E _ (i := 17) (by decide) _) (by omega) (by decide) dX6_process_40 ?_
      refine g_aload_n h 0 dX6_process_41 rfl rfl ?_
      refine g_get (C := RX6) (T := TX6) (N := 29) h 20 (wat_M E _) rfl in_X6_process_X6 (by decide) lk_X6_process_65 rfl rfl dX6_process_42 ?_
      refine g_iload_n h 1 dX6_process_45 rfl rfl ?_
      refine g_dup2 h dX6_process_46 rfl rfl ?_
      refine g_iald (n := 16) h (wat_Y E _ (i := 18) (by decide)) (by omega) (by decide) dX6_process_47 ?_
      refine g_iconst (v := nI 1) h dX6_process_48 (by decide) ?_
      refine g_iload_n h 2 dX6_process_49 rfl rfl ?_
      refine g_ishl h dX6_process_50 ?_
      refine g_iconst (v := -1) h dX6_process_51 (by decide) ?_
      refine g_ixor h dX6_process_52 ?_
      refine g_iand h dX6_process_53 ?_
      refine g_iast (n := 16) h (ws_Y E _ (i := 18) (by decide) _) (by omega) (by decide) dX6_process_54 ?_
      refine g_aload_n h 0 dX6_process_55 rfl rfl ?_
      refine g_dup h dX6_process_56 rfl ?_
      refine g_get (C := RX6) (T := TX6) (N := 29) h 24 (wat_M E _) rfl in_X6_process_X6 (by decide) lk_X6_process_167 rfl rfl dX6_process_57 ?_
      refine g_iconst (v := nI 1) h dX6_process_60 (by decide) ?_
      refine g_iadd h dX6_process_61 ?_
      refine g_put (C := RX6) (T := TX6) (N := 29) h 24 tyX6 (ws_M2 E _ _) rfl in_X6_process_X6 tyX6_ok nmX6 (by decide) lk_X6_process_167 rfl rfl rfl rfl rfl (Nat.le_of_ble_eq_true rfl) dX6_process_62 ?_
      refine g_goto h 78 dX6_process_65 (by decide) ?_
      refine g_aload_n h 0 dX6_process_78 rfl rfl ?_
      refine g_bipush (v := nI 11) h dX6_process_79 (by decide) ?_
      refine g_iload_n h 1 dX6_process_81 rfl rfl ?_
      refine g_iconst (v := -1) h dX6_process_82 (by decide) ?_
      refine g_iload_n h 2 dX6_process_83 rfl rfl ?_
      refine g_iconst (v := nI 0) h dX6_process_84 (by decide) ?_
      refine g_iconst (v := nI 0) h dX6_process_85 (by decide) ?_
      refine g_iconst (v := -1) h dX6_process_86 (by decide) ?_
      refine g_callV (As := [.int (nI 11), .int (nI j), .int _, .int _, .int (nI 0), .int (nI 0), .int _]) (C := RX6) h 7 (c_X6_send l E _ _ _ _ _ _ _ _ (sOK.mono ((sOK_FM (by decide) (sOK_AM (sOK_AM (sOK_AM hs))))) (by omega))) rfl gX6_process_X6_send rfl rfl rfl rfl (by decide +kernel) ⟨Nat.le_of_ble_eq_true rfl, Nat.le_of_ble_eq_true rfl⟩ (wat_M E _) rfl rfl dX6_process_87 ⟨Nat.le_refl _, Nat.le_refl _⟩ (Nat.le_of_ble_eq_true rfl) ?_
      rintro _ _ ⟨rfl, hy⟩
      obtain rfl := hy.symm
      dsimp only [Option.toList, List.cons_append, List.nil_append]
      exact g_vret h hr hk dX6_process_90 (Nat.zero_le _) (Nat.zero_le _) ⟨rfl, Eq.symm (Eq.trans (if_pos c_14) (if_pos c_19))⟩
