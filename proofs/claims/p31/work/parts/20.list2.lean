theorem pls_old {x : St} {q n b : Nat} (hb : b ∈ x.PL) (hq : q ∉ x.PL) : b ∈ (x.addB q n).PL ∧ (x.addB q n).PK b = x.PK b ∧ (x.addB q n).BN b = x.BN b ∧ (x.addB q n).BR b = x.BR b ∧ (x.addB q n).MF b = x.MF b := by
  have e : b ≠ q := fun h => hq (h ▸ hb)
  simp only [St.acc]
  exact ⟨List.mem_append_left _ hb, va_up_ne _ _ e, va_up_ne _ _ e, va_up_ne _ _ e, trivial⟩
theorem pls_new {x : St} {q n : Nat} : q ∈ (x.addB q n).PL ∧ (x.addB q n).PK q = false ∧ (x.addB q n).BN q = n ∧ (x.addB q n).BR q = (fun _ => none) := by
  simp only [St.acc]
  exact ⟨List.mem_append_right _ (List.mem_singleton.mpr rfl), va_up_self _ _ _, va_up_self _ _ _, va_up_self _ _ _⟩
theorem wat_oldB {E : gE} {x : St} {q n b : Nat} (hb : b ∈ x.PL) (hk : x.PK b = false) (hq : q ∉ x.PL) : wat E (x.addB q n) b (eB E (x.BN b) (x.BR b)) := by
  obtain ⟨h1, h2, h3, h4, -⟩ := pls_old (n := n) hb hq
  have h := wat_B E (x.addB q n) h1 (h2.trans hk)
  rw [h3, h4] at h
  exact h
theorem ws_newB {E : gE} {x : St} {q n : Nat} {f : Nat → Option Nat} : wsg E (x.addB q n) q (eB E n (fun _ => none)) (eB E n f) ((x.addB q n).setBR q f) := by
  obtain ⟨h1, h2, h3, h4⟩ := pls_new (x := x) (q := q) (n := n)
  have h := ws_B E (x.addB q n) h1 h2 f
  rw [h3, h4] at h
  exact h
theorem cpy0 {f g : Nat → Option Nat} {n t : Nat} (h : t < n) : va_cpy f g 0 0 n t = f t := by
  rw [pk_cpy_in (Nat.zero_le _) (by omega)]
  congr 1
  omega
set_option maxRecDepth 100000 in
set_option maxHeartbeats 400000 in
theorem c_J7_copyOf_6403c (l : Launch) (E : gE) (x : St) (b : Nat) (k : Nat) (hb : b ∈ x.PL) (hkb : x.PK b = false) (hbk : x.BN b ≤ k) (hk1 : k ≤ 1000) (hel : ∀ t, t < x.BN b → ∀ q, x.BR b t = some q → q ∈ x.PL ∧ x.PK q = true) : Ct l yJ7_copyOf_6403c wsJ7_copyOf_6403c { frames := 1, cells := 1, slots := k, locals := 80 } E [.ref b, .int (nI k), .ref (E.sa 100)] x (fun u y => ∃ (q : Nat) (F : Nat → Option Nat), q ∉ x.PL ∧ u = some (.ref q) ∧ (∀ t, t < x.BN b → F t = x.BR b t) ∧ y = (x.addB q k).setBR q F) 1 (k) := by
  refine Ct.of (cc := cJ7_copyOf_6403c) (nL := 4) (ret := (some (.array (.object "java/lang/Object")))) (by decide) rfl (Nat.le_of_ble_eq_true rfl) ?_
  intro p e s m args below meth c h hr hk hname
  refine g_lvs (lv' := [(0, _), (1, _), (2, _)]) rfl ?_
  refine g_aload_n h 2 dJ7_copyOf_6403c_0 rfl rfl ?_
  refine g_ldcM h (by decide +kernel) dJ7_copyOf_6403c_1 ?_
  refine g_acmp_ne_f h dJ7_copyOf_6403c_3 (tgt := 13) (by decide) ?_
  refine g_iload_n h 1 dJ7_copyOf_6403c_6 rfl rfl ?_
  refine g_newB h (by decide +kernel) (by omega) (by dsimp only; omega) (by dsimp only; omega) dJ7_copyOf_6403c_7 (fun q hq => ?_)
  refine g_goto h 24 dJ7_copyOf_6403c_10 (by decide) ?_
  refine g_astore_n (lv' := [(0, _), (1, _), (2, _), (3, _)]) h [1, 2, 3, 0] dJ7_copyOf_6403c_24 rfl (by decide) rfl ?_
  refine g_aload_n h 0 dJ7_copyOf_6403c_25 rfl rfl ?_
  refine g_iconst (v := nI 0) h dJ7_copyOf_6403c_26 (by decide) ?_
  refine g_aload_n h 3 dJ7_copyOf_6403c_27 rfl rfl ?_
  refine g_iconst (v := nI 0) h dJ7_copyOf_6403c_28 (by decide) ?_
  refine g_aload_n h 0 dJ7_copyOf_6403c_29 rfl rfl ?_
  refine g_blen h (wat_oldB hb hkb hq) dJ7_copyOf_6403c_30 ?_
  refine g_iload_n h 1 dJ7_copyOf_6403c_31 rfl rfl ?_
  refine g_min h (by decide +kernel) (by decide +kernel) (by decide +kernel) (by decide +kernel) (by omega) (by omega) hbk (Nat.le_of_ble_eq_true rfl) (Nat.le_of_ble_eq_true rfl) (by dsimp only; omega) (by dsimp only; omega) dJ7_copyOf_6403c_32 ?_
  refine g_copyM h (by decide +kernel) (by decide +kernel) (by decide +kernel) (by decide +kernel) (n0 := x.BN b) (n1 := k) (f := x.BR b) (g := fun _ => none) (wat_oldB hb hkb hq) ws_newB (by omega) (by omega) (by omega) (by omega) (fun t ht r hr => by rw [Nat.zero_add] at hr; obtain ⟨g1, g2⟩ := hel t ht r hr; exact ⟨(pls_old g1 hq).1, (pls_old g1 hq).2.1.trans g2⟩) (Nat.le_of_ble_eq_true rfl) (Nat.le_of_ble_eq_true rfl) dJ7_copyOf_6403c_35 ?_
  refine g_aload_n h 3 dJ7_copyOf_6403c_38 rfl rfl ?_
  exact g_aret h hr hk (Or.inr ⟨_, rfl⟩) (Or.inr ⟨_, rfl⟩) dJ7_copyOf_6403c_39 (by omega) (by omega) ⟨q, _, hq, rfl, fun t ht => cpy0 ht, rfl⟩
set_option maxRecDepth 100000 in
set_option maxHeartbeats 400000 in
theorem c_J7_copyOf_1904c (l : Launch) (E : gE) (x : St) (b : Nat) (k : Nat) (hb : b ∈ x.PL) (hkb : x.PK b = false) (hbk : x.BN b ≤ k) (hk1 : k ≤ 1000) (hel : ∀ t, t < x.BN b → ∀ q, x.BR b t = some q → q ∈ x.PL ∧ x.PK q = true) : Ct l yJ7_copyOf_1904c wsJ7_copyOf_1904c { frames := 2, cells := 1, slots := k, locals := 105 } E [.ref b, .int (nI k)] x (fun u y => ∃ (q : Nat) (F : Nat → Option Nat), q ∉ x.PL ∧ u = some (.ref q) ∧ (∀ t, t < x.BN b → F t = x.BR b t) ∧ y = (x.addB q k).setBR q F) 1 (k) := by
  refine Ct.of (cc := cJ7_copyOf_1904c) (nL := 2) (ret := (some (.array (.object "java/lang/Object")))) (by decide) rfl (Nat.le_of_ble_eq_true rfl) ?_
  intro p e s m args below meth c h hr hk hname
  refine g_lvs (lv' := [(0, _), (1, _)]) rfl ?_
  refine g_aload_n h 0 dJ7_copyOf_1904c_0 rfl rfl ?_
  refine g_iload_n h 1 dJ7_copyOf_1904c_1 rfl rfl ?_
  refine g_aload_n h 0 dJ7_copyOf_1904c_2 rfl rfl ?_
  refine g_getC h (by decide +kernel) (by decide +kernel) (by decide +kernel) (by decide +kernel) (wat_B E _ hb hkb) (Nat.le_of_ble_eq_true rfl) (Nat.le_of_ble_eq_true rfl) dJ7_copyOf_1904c_3 ?_
  refine g_callS (As := [.ref b, .int (nI k), .ref (E.sa 100)]) h 3 (c_J7_copyOf_6403c l E _ b k hb hkb hbk hk1 hel) rfl gJ7_copyOf_1904c_J7_copyOf_6403c rfl rfl rfl rfl (by decide +kernel) ⟨Nat.le_of_ble_eq_true rfl, Nat.le_of_ble_eq_true rfl⟩ dJ7_copyOf_1904c_6 ⟨by dsimp only; omega, by dsimp only; omega⟩ (Nat.le_of_ble_eq_true rfl) ?_
  rintro _ y ⟨q, F, hq, rfl, hF, rfl⟩
  dsimp only [Option.toList, List.cons_append, List.nil_append]
  exact g_aret h hr hk (Or.inr ⟨_, rfl⟩) (Or.inr ⟨_, rfl⟩) dJ7_copyOf_1904c_9 (by omega) (by omega) ⟨q, F, hq, rfl, hF, rfl⟩
theorem in_Jx4a65c_grow_92f84_Jx4a65c : ∀ w ∈ wsJx4a65c0, w ∈ wsJx4a65c_grow_92f84 := by decide +kernel
theorem lk_Jx4a65c_grow_92f84_9 : Cond.fieldLink RJx4a65c 9 "java/util/ArrayList" "elementData" "[Ljava/lang/Object;" ∈ wsJx4a65c_grow_92f84 := by decide +kernel
set_option maxRecDepth 100000 in
set_option maxHeartbeats 400000 in
theorem c_Jx4a65c_grow_92f84_f (l : Launch) (E : gE) (x : St) (j : Nat) (b : Nat) (w : Nat) (hj : j < 17) (hD : x.LD j = some b) (hb : b ∈ x.PL) (hkb : x.PK b = false) (hm : w = x.BN b + 1) (h0 : 0 < x.BN b) (hn : x.BN b ≤ 63) (hel : ∀ t, t < x.BN b → ∀ q, x.BR b t = some q → q ∈ x.PL ∧ x.PK q = true) : Ct l yJx4a65c_grow_92f84 wsJx4a65c_grow_92f84 { frames := 3, cells := 1, slots := (x.BN b + max 1 (x.BN b / 2)), locals := 130 } E [.ref (aL E j), .int (nI w)] x (fun u y => ∃ (q : Nat) (F : Nat → Option Nat), q ∉ x.PL ∧ u = some (.ref q) ∧ (∀ t, t < x.BN b → F t = x.BR b t) ∧ y = ((x.addB q (x.BN b + max 1 (x.BN b / 2))).setBR q F).setLD j (some q)) 1 ((x.BN b + max 1 (x.BN b / 2))) := by
  refine Ct.of (cc := cJx4a65c_grow_92f84) (nL := 4) (ret := (some (.array (.object "java/lang/Object")))) (by decide) rfl (Nat.le_of_ble_eq_true rfl) ?_
  intro p e s m args below meth c h hr hk hname
  refine g_lvs (lv' := [(0, _), (1, _)]) rfl ?_
  refine g_aload_n h 0 dJx4a65c_grow_92f84_0 rfl rfl ?_
  refine g_get (C := RJx4a65c) (T := TJx4a65c) (N := 3) h 1 (wat_L E _ (by omega)) rfl in_Jx4a65c_grow_92f84_Jx4a65c (by decide) lk_Jx4a65c_grow_92f84_9 rfl rfl dJx4a65c_grow_92f84_1 ?_
  refine g_eqv (show Value.ref (((x).LD j).getD E.z) = .ref b from by rw [hD]; rfl) ?_
  refine g_blen h (wat_B E _ hb hkb) dJx4a65c_grow_92f84_4 ?_
  refine g_istore_n (lv' := [(0, _), (1, _), (2, _)]) h [1, 2, 0] dJx4a65c_grow_92f84_5 rfl (by decide) rfl ?_
  refine g_iload_n h 2 dJx4a65c_grow_92f84_6 rfl rfl ?_
  refine g_if_gt h 20 dJx4a65c_grow_92f84_7 (by decide) (fun c_7 => ?_) (fun c_7 => absurd c_7 (fun q => q (nI_lt (a := 0) h0 (by omega))))
  refine g_iload_n h 2 dJx4a65c_grow_92f84_20 rfl rfl ?_
  refine g_iload_n h 1 dJx4a65c_grow_92f84_21 rfl rfl ?_
  refine g_iload_n h 2 dJx4a65c_grow_92f84_22 rfl rfl ?_
  refine g_isubN h dJx4a65c_grow_92f84_23 (by omega) ?_
  refine g_eqi (show nI (w - x.BN b) = nI 1 by rw [hm]; congr 1; omega) ?_
  refine g_iload_n h 2 dJx4a65c_grow_92f84_24 rfl rfl ?_
  refine g_iconst (v := nI 1) h dJx4a65c_grow_92f84_25 (by decide) ?_
  refine g_ishr h dJx4a65c_grow_92f84_26 ?_
  refine g_eqi (show nI (x.BN b) >>> (nI 1 &&& 31) = nI (x.BN b / 2) from pk_shrN (by omega) _ 1 (by decide)) ?_
  refine g_callS (As := [.int (nI (x.BN b)), .int (nI 1), .int (nI ((x.BN b) / 2))]) h 3 (c_J8_newLength_cabcc l E _ (x.BN b) 1 ((x.BN b) / 2) (by omega) (by omega)) rfl gJx4a65c_grow_92f84_J8_newLength_cabcc rfl rfl rfl rfl (by decide +kernel) ⟨Nat.le_of_ble_eq_true rfl, Nat.le_of_ble_eq_true rfl⟩ dJx4a65c_grow_92f84_27 ⟨by dsimp only; omega, by dsimp only; omega⟩ (Nat.le_of_ble_eq_true rfl) ?_
  rintro _ _ ⟨rfl, hy⟩
  obtain rfl := hy.symm
  dsimp only [Option.toList, List.cons_append, List.nil_append]
  refine g_istore_n (lv' := [(0, _), (1, _), (2, _), (3, _)]) h [1, 2, 3, 0] dJx4a65c_grow_92f84_30 rfl (by decide) rfl ?_
  refine g_aload_n h 0 dJx4a65c_grow_92f84_31 rfl rfl ?_
  refine g_aload_n h 0 dJx4a65c_grow_92f84_32 rfl rfl ?_
  refine g_get (C := RJx4a65c) (T := TJx4a65c) (N := 3) h 1 (wat_L E _ (by omega)) rfl in_Jx4a65c_grow_92f84_Jx4a65c (by decide) lk_Jx4a65c_grow_92f84_9 rfl rfl dJx4a65c_grow_92f84_33 ?_
  refine g_eqv (show Value.ref (((x).LD j).getD E.z) = .ref b from by rw [hD]; rfl) ?_
  refine g_iload_n h 3 dJx4a65c_grow_92f84_36 rfl rfl ?_
  refine g_callS (As := [.ref b, .int (nI ((x.BN b) + max 1 ((x.BN b) / 2)))]) h 2 (c_J7_copyOf_1904c l E _ b ((x.BN b) + max 1 ((x.BN b) / 2)) hb hkb (by omega) (by omega) hel) rfl gJx4a65c_grow_92f84_J7_copyOf_1904c rfl rfl rfl rfl (by decide +kernel) ⟨Nat.le_of_ble_eq_true rfl, Nat.le_of_ble_eq_true rfl⟩ dJx4a65c_grow_92f84_37 ⟨by dsimp only; omega, by dsimp only; omega⟩ (Nat.le_of_ble_eq_true rfl) ?_
  rintro _ y ⟨q, F, hq, rfl, hF, rfl⟩
  dsimp only [Option.toList, List.cons_append, List.nil_append]
  refine g_dup_x1 h dJx4a65c_grow_92f84_40 rfl rfl ?_
  refine g_put (C := RJx4a65c) (T := TJx4a65c) (N := 3) h 1 tyJx4a65c (ws_L1 E _ (by omega) _) rfl in_Jx4a65c_grow_92f84_Jx4a65c tyJx4a65c_ok nmJx4a65c (by decide) lk_Jx4a65c_grow_92f84_9 rfl rfl rfl rfl rfl (Nat.le_of_ble_eq_true rfl) dJx4a65c_grow_92f84_41 ?_
  exact g_aret h hr hk (Or.inr ⟨_, rfl⟩) (Or.inr ⟨_, rfl⟩) dJx4a65c_grow_92f84_44 (by omega) (by omega) ⟨q, F, hq, rfl, hF, rfl⟩
set_option maxRecDepth 100000 in
set_option maxHeartbeats 400000 in
theorem c_Jx4a65c_grow_92f84_n (l : Launch) (E : gE) (x : St) (j : Nat) (hj : j < 17) (hD : x.LD j = none) : Ct l yJx4a65c_grow_92f84 wsJx4a65c_grow_92f84 { frames := 3, cells := 1, slots := 10, locals := 130 } E [.ref (aL E j), .int (nI 1)] x (fun u y => ∃ q : Nat, q ∉ x.PL ∧ u = some (.ref q) ∧ y = (x.addB q 10).setLD j (some q)) 1 10 := by
  refine Ct.of (cc := cJx4a65c_grow_92f84) (nL := 4) (ret := (some (.array (.object "java/lang/Object")))) (by decide) rfl (Nat.le_of_ble_eq_true rfl) ?_
  intro p e s m args below meth c h hr hk hname
  refine g_lvs (lv' := [(0, _), (1, _)]) rfl ?_
  refine g_aload_n h 0 dJx4a65c_grow_92f84_0 rfl rfl ?_
  refine g_get (C := RJx4a65c) (T := TJx4a65c) (N := 3) h 1 (wat_L E _ (by omega)) rfl in_Jx4a65c_grow_92f84_Jx4a65c (by decide) lk_Jx4a65c_grow_92f84_9 rfl rfl dJx4a65c_grow_92f84_1 ?_
  refine g_eqv (show Value.ref (((x).LD j).getD E.z) = .ref E.z from by rw [hD]; rfl) ?_
  refine g_zlen h dJx4a65c_grow_92f84_4 ?_
  refine g_istore_n (lv' := [(0, _), (1, _), (2, _)]) h [1, 2, 0] dJx4a65c_grow_92f84_5 rfl (by decide) rfl ?_
  refine g_iload_n h 2 dJx4a65c_grow_92f84_6 rfl rfl ?_
  refine g_if_gt h 20 dJx4a65c_grow_92f84_7 (by decide) (fun c_7 => absurd c_7 (by decide)) (fun c_7 => ?_)
  refine g_aload_n h 0 dJx4a65c_grow_92f84_10 rfl rfl ?_
  refine g_get (C := RJx4a65c) (T := TJx4a65c) (N := 3) h 1 (wat_L E _ (by omega)) rfl in_Jx4a65c_grow_92f84_Jx4a65c (by decide) lk_Jx4a65c_grow_92f84_9 rfl rfl dJx4a65c_grow_92f84_11 ?_
  refine g_eqv (show Value.ref (((x).LD j).getD E.z) = .ref E.z from by rw [hD]; rfl) ?_
  refine g_getsZ h (by decide +kernel) dJx4a65c_grow_92f84_14 ?_
  refine g_acmp_eq_t h 45 dJx4a65c_grow_92f84_17 (by decide) ?_
  refine g_aload_n h 0 dJx4a65c_grow_92f84_45 rfl rfl ?_
  refine g_bipush (v := nI 10) h dJx4a65c_grow_92f84_46 (by decide) ?_
  refine g_iload_n h 1 dJx4a65c_grow_92f84_48 rfl rfl ?_
  refine g_max h (by decide +kernel) (by decide +kernel) (by decide +kernel) (by decide +kernel) (by omega) (by omega) (Nat.le_of_ble_eq_true rfl) (Nat.le_of_ble_eq_true rfl) (Nat.zero_le _) (Nat.zero_le _) dJx4a65c_grow_92f84_49 ?_
  refine g_eqi (show nI (max 10 1) = nI 10 from rfl) ?_
  refine g_newB h (by decide +kernel) (by omega) (by dsimp only; omega) (by dsimp only; omega) dJx4a65c_grow_92f84_52 (fun q hq => ?_)
  refine g_dup_x1 h dJx4a65c_grow_92f84_55 rfl rfl ?_
  refine g_put (C := RJx4a65c) (T := TJx4a65c) (N := 3) h 1 tyJx4a65c (ws_L1 E _ (by omega) _) rfl in_Jx4a65c_grow_92f84_Jx4a65c tyJx4a65c_ok nmJx4a65c (by decide) lk_Jx4a65c_grow_92f84_9 rfl rfl rfl rfl rfl (Nat.le_of_ble_eq_true rfl) dJx4a65c_grow_92f84_56 ?_
  exact g_aret h hr hk (Or.inr ⟨_, rfl⟩) (Or.inr ⟨_, rfl⟩) dJx4a65c_grow_92f84_59 (by omega) (by omega) ⟨q, hq, rfl, rfl⟩
theorem in_Jx4a65c_grow_d5877_Jx4a65c : ∀ w ∈ wsJx4a65c0, w ∈ wsJx4a65c_grow_d5877 := by decide +kernel
theorem lk_Jx4a65c_grow_d5877_48 : Cond.fieldLink RJx4a65c 48 "java/util/ArrayList" "size" "I" ∈ wsJx4a65c_grow_d5877 := by decide +kernel
set_option maxRecDepth 100000 in
set_option maxHeartbeats 400000 in
theorem c_Jx4a65c_grow_d5877_f (l : Launch) (E : gE) (x : St) (j : Nat) (b : Nat) (hj : j < 17) (hD : x.LD j = some b) (hb : b ∈ x.PL) (hkb : x.PK b = false) (hsz : x.FL j 2 = nI (x.BN b)) (h0 : 0 < x.BN b) (hn : x.BN b ≤ 63) (hel : ∀ t, t < x.BN b → ∀ q, x.BR b t = some q → q ∈ x.PL ∧ x.PK q = true) : Ct l yJx4a65c_grow_d5877 wsJx4a65c_grow_d5877 { frames := 4, cells := 1, slots := (x.BN b + max 1 (x.BN b / 2)), locals := 155 } E [.ref (aL E j)] x (fun u y => ∃ (q : Nat) (F : Nat → Option Nat), q ∉ x.PL ∧ u = some (.ref q) ∧ (∀ t, t < x.BN b → F t = x.BR b t) ∧ y = ((x.addB q (x.BN b + max 1 (x.BN b / 2))).setBR q F).setLD j (some q)) 1 ((x.BN b + max 1 (x.BN b / 2))) := by
  refine Ct.of (cc := cJx4a65c_grow_d5877) (nL := 1) (ret := (some (.array (.object "java/lang/Object")))) (by decide) rfl (Nat.le_of_ble_eq_true rfl) ?_
  intro p e s m args below meth c h hr hk hname
  refine g_lvs (lv' := [(0, _)]) rfl ?_
  refine g_aload_n h 0 dJx4a65c_grow_d5877_0 rfl rfl ?_
  refine g_aload_n h 0 dJx4a65c_grow_d5877_1 rfl rfl ?_
  refine g_get (C := RJx4a65c) (T := TJx4a65c) (N := 3) h 2 (wat_L E _ (by omega)) rfl in_Jx4a65c_grow_d5877_Jx4a65c (by decide) lk_Jx4a65c_grow_d5877_48 rfl rfl dJx4a65c_grow_d5877_2 ?_
  refine g_eqi (hsz) ?_
  refine g_iconst (v := nI 1) h dJx4a65c_grow_d5877_5 (by decide) ?_
  refine g_iaddN h dJx4a65c_grow_d5877_6 ?_
  refine g_callV (As := [.int (nI ((x.BN b) + 1))]) (C := RJx4a65c) h 1 (c_Jx4a65c_grow_92f84_f l E _ j b ((x.BN b) + 1) hj hD hb hkb (by omega) h0 hn hel) rfl gJx4a65c_grow_d5877_Jx4a65c_grow_92f84 rfl rfl rfl rfl (by decide +kernel) ⟨Nat.le_of_ble_eq_true rfl, Nat.le_of_ble_eq_true rfl⟩ (wat_L E _ (by omega)) rfl rfl dJx4a65c_grow_d5877_7 ⟨by dsimp only; omega, by dsimp only; omega⟩ (Nat.le_of_ble_eq_true rfl) ?_
  rintro _ y ⟨q, F, hq, rfl, hF, rfl⟩
  dsimp only [Option.toList, List.cons_append, List.nil_append]
  exact g_aret h hr hk (Or.inr ⟨_, rfl⟩) (Or.inr ⟨_, rfl⟩) dJx4a65c_grow_d5877_10 (by omega) (by omega) ⟨q, F, hq, rfl, hF, rfl⟩
set_option maxRecDepth 100000 in
set_option maxHeartbeats 400000 in
theorem c_Jx4a65c_grow_d5877_n (l : Launch) (E : gE) (x : St) (j : Nat) (hj : j < 17) (hD : x.LD j = none) (hsz : x.FL j 2 = nI 0) : Ct l yJx4a65c_grow_d5877 wsJx4a65c_grow_d5877 { frames := 4, cells := 1, slots := 10, locals := 155 } E [.ref (aL E j)] x (fun u y => ∃ q : Nat, q ∉ x.PL ∧ u = some (.ref q) ∧ y = (x.addB q 10).setLD j (some q)) 1 10 := by
  refine Ct.of (cc := cJx4a65c_grow_d5877) (nL := 1) (ret := (some (.array (.object "java/lang/Object")))) (by decide) rfl (Nat.le_of_ble_eq_true rfl) ?_
  intro p e s m args below meth c h hr hk hname
  refine g_lvs (lv' := [(0, _)]) rfl ?_
  refine g_aload_n h 0 dJx4a65c_grow_d5877_0 rfl rfl ?_
  refine g_aload_n h 0 dJx4a65c_grow_d5877_1 rfl rfl ?_
  refine g_get (C := RJx4a65c) (T := TJx4a65c) (N := 3) h 2 (wat_L E _ (by omega)) rfl in_Jx4a65c_grow_d5877_Jx4a65c (by decide) lk_Jx4a65c_grow_d5877_48 rfl rfl dJx4a65c_grow_d5877_2 ?_
  refine g_eqi (hsz) ?_
  refine g_iconst (v := nI 1) h dJx4a65c_grow_d5877_5 (by decide) ?_
  refine g_iaddN h dJx4a65c_grow_d5877_6 ?_
  refine g_callV (As := [.int (nI (0 + 1))]) (C := RJx4a65c) h 1 (c_Jx4a65c_grow_92f84_n l E _ j hj hD) rfl gJx4a65c_grow_d5877_Jx4a65c_grow_92f84 rfl rfl rfl rfl (by decide +kernel) ⟨Nat.le_of_ble_eq_true rfl, Nat.le_of_ble_eq_true rfl⟩ (wat_L E _ (by omega)) rfl rfl dJx4a65c_grow_d5877_7 ⟨by dsimp only; omega, by dsimp only; omega⟩ (Nat.le_of_ble_eq_true rfl) ?_
  rintro _ y ⟨q, hq, rfl, rfl⟩
  dsimp only [Option.toList, List.cons_append, List.nil_append]
  exact g_aret h hr hk (Or.inr ⟨_, rfl⟩) (Or.inr ⟨_, rfl⟩) dJx4a65c_grow_d5877_10 (by omega) (by omega) ⟨q, hq, rfl, rfl⟩
theorem in_Jx4a65c_add_72be8_Jx4a65c : ∀ w ∈ wsJx4a65c0, w ∈ wsJx4a65c_add_72be8 := by decide +kernel
theorem lk_Jx4a65c_add_72be8_48 : Cond.fieldLink RJx4a65c 48 "java/util/ArrayList" "size" "I" ∈ wsJx4a65c_add_72be8 := by decide +kernel
set_option maxRecDepth 100000 in
set_option maxHeartbeats 400000 in
theorem c_Jx4a65c_add_72be8_s (l : Launch) (E : gE) (x : St) (j : Nat) (a : Nat) (b : Nat) (n : Nat) (hj : j < 17) (ha : a ∈ x.PL) (hka : x.PK a = true) (hb : b ∈ x.PL) (hkb : x.PK b = false) (hnb : n < x.BN b) (hbn : x.BN b ≤ 96) : Ct l yJx4a65c_add_72be8 wsJx4a65c_add_72be8 { frames := 5, cells := 0, slots := 0, locals := 180 } E [.ref (aL E j), .ref a, .ref b, .int (nI n)] x (fun u y => u = none ∧ y = (x.setBR b (va_up (x.BR b) n (some a))).setFL j 2 (nI (n + 1))) 0 0 := by
  refine Ct.of (cc := cJx4a65c_add_72be8) (nL := 4) (ret := none) (by decide) rfl (Nat.le_of_ble_eq_true rfl) ?_
  intro p e s m args below meth c h hr hk hname
  refine g_lvs (lv' := [(0, _), (1, _), (2, _), (3, _)]) rfl ?_
  refine g_iload_n h 3 dJx4a65c_add_72be8_0 rfl rfl ?_
  refine g_aload_n h 2 dJx4a65c_add_72be8_1 rfl rfl ?_
  refine g_blen h (wat_B E _ hb hkb) dJx4a65c_add_72be8_2 ?_
  refine g_icmp_neN h 11 dJx4a65c_add_72be8_3 (by decide) (by omega) (by omega) (fun c_3 => ?_) (fun c_3 => absurd c_3 (by omega))
  refine g_aload_n h 2 dJx4a65c_add_72be8_11 rfl rfl ?_
  refine g_iload_n h 3 dJx4a65c_add_72be8_12 rfl rfl ?_
  refine g_aload_n h 1 dJx4a65c_add_72be8_13 rfl rfl ?_
  refine g_astM (n := (x).BN b) (f := (x).BR b) h (ws_B E (x) hb hkb _) ha hka (by exact hnb) (by exact Nat.lt_of_le_of_lt hbn (by decide)) dJx4a65c_add_72be8_14 ?_
  refine g_aload_n h 0 dJx4a65c_add_72be8_15 rfl rfl ?_
  refine g_iload_n h 3 dJx4a65c_add_72be8_16 rfl rfl ?_
  refine g_iconst (v := nI 1) h dJx4a65c_add_72be8_17 (by decide) ?_
  refine g_iaddN h dJx4a65c_add_72be8_18 ?_
  refine g_put (C := RJx4a65c) (T := TJx4a65c) (N := 3) h 2 tyJx4a65c (ws_L2 E _ (by omega) _) rfl in_Jx4a65c_add_72be8_Jx4a65c tyJx4a65c_ok nmJx4a65c (by decide) lk_Jx4a65c_add_72be8_48 rfl rfl rfl rfl rfl (Nat.le_of_ble_eq_true rfl) dJx4a65c_add_72be8_19 ?_
  exact g_vret h hr hk dJx4a65c_add_72be8_22 (by omega) (by omega) ⟨rfl, rfl⟩
set_option maxRecDepth 100000 in
set_option maxHeartbeats 400000 in
theorem c_Jx4a65c_add_72be8_f (l : Launch) (E : gE) (x : St) (j : Nat) (a : Nat) (b : Nat) (n : Nat) (hj : j < 17) (hD : x.LD j = some b) (hb : b ∈ x.PL) (hkb : x.PK b = false) (hsz : x.FL j 2 = nI (x.BN b)) (h0 : 0 < x.BN b) (hn : x.BN b ≤ 63) (hel : ∀ t, t < x.BN b → ∀ q, x.BR b t = some q → q ∈ x.PL ∧ x.PK q = true) (ha : a ∈ x.PL) (hka : x.PK a = true) (hnb : n = x.BN b) : Ct l yJx4a65c_add_72be8 wsJx4a65c_add_72be8 { frames := 5, cells := 1, slots := (x.BN b + max 1 (x.BN b / 2)), locals := 180 } E [.ref (aL E j), .ref a, .ref b, .int (nI n)] x (fun u y => u = none ∧ ∃ (q : Nat) (F : Nat → Option Nat), q ∉ x.PL ∧ (∀ t, t < x.BN b → F t = x.BR b t) ∧ y = ((((x.addB q (x.BN b + max 1 (x.BN b / 2))).setBR q F).setLD j (some q)).setBR q (va_up F n (some a))).setFL j 2 (nI (n + 1))) 1 ((x.BN b + max 1 (x.BN b / 2))) := by
  refine Ct.of (cc := cJx4a65c_add_72be8) (nL := 4) (ret := none) (by decide) rfl (Nat.le_of_ble_eq_true rfl) ?_
  intro p e s m args below meth c h hr hk hname
  refine g_lvs (lv' := [(0, _), (1, _), (2, _), (3, _)]) rfl ?_
  refine g_iload_n h 3 dJx4a65c_add_72be8_0 rfl rfl ?_
  refine g_aload_n h 2 dJx4a65c_add_72be8_1 rfl rfl ?_
  refine g_blen h (wat_B E _ hb hkb) dJx4a65c_add_72be8_2 ?_
  refine g_icmp_neN h 11 dJx4a65c_add_72be8_3 (by decide) (by omega) (by omega) (fun c_3 => absurd c_3 (by omega)) (fun c_3 => ?_)
  refine g_aload_n h 0 dJx4a65c_add_72be8_6 rfl rfl ?_
  refine g_callV (As := []) (C := RJx4a65c) h 0 (c_Jx4a65c_grow_d5877_f l E _ j b hj hD hb hkb hsz h0 hn hel) rfl gJx4a65c_add_72be8_Jx4a65c_grow_d5877 rfl rfl rfl rfl (by decide +kernel) ⟨Nat.le_of_ble_eq_true rfl, Nat.le_of_ble_eq_true rfl⟩ (wat_L E _ (by omega)) rfl rfl dJx4a65c_add_72be8_7 ⟨by dsimp only; omega, by dsimp only; omega⟩ (Nat.le_of_ble_eq_true rfl) ?_
  rintro _ z ⟨q, F, hq, rfl, hF, hz⟩
  have z1 : q ∈ z.PL := by rw [hz]; simp only [St.acc]; exact List.mem_append_right _ (List.mem_singleton.mpr rfl)
  have z2 : z.PK q = false := by rw [hz]; simp only [St.acc, va_up_self]
  have z3 : z.BN q = (x.BN b + max 1 (x.BN b / 2)) := by rw [hz]; simp only [St.acc, va_up_self]
  have z4 : z.BR q = F := by rw [hz]; simp only [St.acc, va_up_self]
  have z5 : a ∈ z.PL := by rw [hz]; simp only [St.acc]; exact List.mem_append_left _ ha
  have z6 : z.PK a = true := by rw [hz]; simp only [St.acc]; exact (va_up_ne _ _ (fun e : a = q => hq (e ▸ ha))).trans hka
  dsimp only [Option.toList, List.cons_append, List.nil_append]
  refine g_astore_n (lv' := [(0, _), (1, _), (2, _), (3, _)]) h [1, 2, 0, 3] dJx4a65c_add_72be8_10 rfl (by decide) rfl ?_
  refine g_aload_n h 2 dJx4a65c_add_72be8_11 rfl rfl ?_
  refine g_iload_n h 3 dJx4a65c_add_72be8_12 rfl rfl ?_
  refine g_aload_n h 1 dJx4a65c_add_72be8_13 rfl rfl ?_
  refine g_astM (n := (z).BN q) (f := (z).BR q) h (ws_B E (z) z1 z2 _) z5 z6 (by rw [z3]; omega) (by rw [z3]; omega) dJx4a65c_add_72be8_14 ?_
  refine g_x (y := (z).setBR q (va_up (F) n (some a))) (by rw [z4]) ?_
  refine g_aload_n h 0 dJx4a65c_add_72be8_15 rfl rfl ?_
  refine g_iload_n h 3 dJx4a65c_add_72be8_16 rfl rfl ?_
  refine g_iconst (v := nI 1) h dJx4a65c_add_72be8_17 (by decide) ?_
  refine g_iaddN h dJx4a65c_add_72be8_18 ?_
  refine g_put (C := RJx4a65c) (T := TJx4a65c) (N := 3) h 2 tyJx4a65c (ws_L2 E _ (by omega) _) rfl in_Jx4a65c_add_72be8_Jx4a65c tyJx4a65c_ok nmJx4a65c (by decide) lk_Jx4a65c_add_72be8_48 rfl rfl rfl rfl rfl (Nat.le_of_ble_eq_true rfl) dJx4a65c_add_72be8_19 ?_
  exact g_vret h hr hk dJx4a65c_add_72be8_22 (by omega) (by omega) ⟨rfl, q, F, hq, hF, by rw [hz]⟩
set_option maxRecDepth 100000 in
set_option maxHeartbeats 400000 in
theorem c_Jx4a65c_add_72be8_n (l : Launch) (E : gE) (x : St) (j : Nat) (a : Nat) (hj : j < 17) (hD : x.LD j = none) (hsz : x.FL j 2 = nI 0) (ha : a ∈ x.PL) (hka : x.PK a = true) : Ct l yJx4a65c_add_72be8 wsJx4a65c_add_72be8 { frames := 5, cells := 1, slots := 10, locals := 180 } E [.ref (aL E j), .ref a, .ref E.z, .int (nI 0)] x (fun u y => u = none ∧ ∃ q : Nat, q ∉ x.PL ∧ y = (((x.addB q 10).setLD j (some q)).setBR q (va_up (fun _ => none) 0 (some a))).setFL j 2 (nI 1)) 1 10 := by
  refine Ct.of (cc := cJx4a65c_add_72be8) (nL := 4) (ret := none) (by decide) rfl (Nat.le_of_ble_eq_true rfl) ?_
  intro p e s m args below meth c h hr hk hname
  refine g_lvs (lv' := [(0, _), (1, _), (2, _), (3, _)]) rfl ?_
  refine g_iload_n h 3 dJx4a65c_add_72be8_0 rfl rfl ?_
  refine g_aload_n h 2 dJx4a65c_add_72be8_1 rfl rfl ?_
  refine g_zlen h dJx4a65c_add_72be8_2 ?_
  refine g_icmp_neN h 11 dJx4a65c_add_72be8_3 (by decide) (by omega) (by omega) (fun c_3 => absurd c_3 (by decide)) (fun c_3 => ?_)
  refine g_aload_n h 0 dJx4a65c_add_72be8_6 rfl rfl ?_
  refine g_callV (As := []) (C := RJx4a65c) h 0 (c_Jx4a65c_grow_d5877_n l E _ j hj hD hsz) rfl gJx4a65c_add_72be8_Jx4a65c_grow_d5877 rfl rfl rfl rfl (by decide +kernel) ⟨Nat.le_of_ble_eq_true rfl, Nat.le_of_ble_eq_true rfl⟩ (wat_L E _ (by omega)) rfl rfl dJx4a65c_add_72be8_7 ⟨by dsimp only; omega, by dsimp only; omega⟩ (Nat.le_of_ble_eq_true rfl) ?_
  rintro _ y ⟨q, hq, rfl, rfl⟩
  dsimp only [Option.toList, List.cons_append, List.nil_append]
  refine g_astore_n (lv' := [(0, _), (1, _), (2, _), (3, _)]) h [1, 2, 0, 3] dJx4a65c_add_72be8_10 rfl (by decide) rfl ?_
  refine g_aload_n h 2 dJx4a65c_add_72be8_11 rfl rfl ?_
  refine g_iload_n h 3 dJx4a65c_add_72be8_12 rfl rfl ?_
  refine g_aload_n h 1 dJx4a65c_add_72be8_13 rfl rfl ?_
  refine g_astM (n := (((x.addB q 10).setLD j (some q))).BN q) (f := (((x.addB q 10).setLD j (some q))).BR q) h (ws_B E (((x.addB q 10).setLD j (some q))) pls_new.1 pls_new.2.1 _) (pls_old ha hq).1 ((pls_old ha hq).2.1.trans hka) (by simp only [St.acc, va_up_self]; omega) (by simp only [St.acc, va_up_self]; omega) dJx4a65c_add_72be8_14 ?_
  refine g_x (y := (((x.addB q 10).setLD j (some q))).setBR q (va_up (fun _ => none) 0 (some a))) (by simp only [St.acc, va_up_self]) ?_
  refine g_aload_n h 0 dJx4a65c_add_72be8_15 rfl rfl ?_
  refine g_iload_n h 3 dJx4a65c_add_72be8_16 rfl rfl ?_
  refine g_iconst (v := nI 1) h dJx4a65c_add_72be8_17 (by decide) ?_
  refine g_iaddN h dJx4a65c_add_72be8_18 ?_
  refine g_put (C := RJx4a65c) (T := TJx4a65c) (N := 3) h 2 tyJx4a65c (ws_L2 E _ (by omega) _) rfl in_Jx4a65c_add_72be8_Jx4a65c tyJx4a65c_ok nmJx4a65c (by decide) lk_Jx4a65c_add_72be8_48 rfl rfl rfl rfl rfl (Nat.le_of_ble_eq_true rfl) dJx4a65c_add_72be8_19 ?_
  exact g_vret h hr hk dJx4a65c_add_72be8_22 (by omega) (by omega) ⟨rfl, q, hq, rfl⟩
/-- what adding a at the end of list j (of n elements) does -/
def AddP (x y : St) (j n a : Nat) : Prop :=
  er y = er x ∧ (∀ c, c ∈ x.PL → c ∈ y.PL ∧ y.PK c = x.PK c ∧ y.MF c = x.MF c) ∧ (∀ k, k ≠ j → y.FL k = x.FL k ∧ y.LD k = x.LD k) ∧ y.FL j 2 = nI (n + 1) ∧
  (∀ c, c ∈ x.PL → x.LD j ≠ some c → y.BN c = x.BN c ∧ y.BR c = x.BR c) ∧
  ∃ b, y.LD j = some b ∧ b ∈ y.PL ∧ y.PK b = false ∧ 10 ≤ y.BN b ∧ y.BN b ≤ 96 ∧ n + 1 ≤ y.BN b ∧ (∀ b0, x.LD j = some b0 → ∀ t, t < n → y.BR b t = x.BR b0 t) ∧ y.BR b n = some a ∧ (x.LD j = some b ∨ b ∉ x.PL)
theorem er_setFL {x : St} {j m : Nat} {w : Int32} : er (x.setFL j m w) = er x := rfl
theorem er_setLD {x : St} {j : Nat} {w : Option Nat} : er (x.setLD j w) = er x := rfl
theorem er_setBR {x : St} {b : Nat} {f : Nat → Option Nat} : er (x.setBR b f) = er x := rfl
theorem er_addB {x : St} {q n : Nat} : er (x.addB q n) = er x := rfl
theorem er_addM {x : St} {q : Nat} : er (x.addM q) = er x := rfl
theorem er_setMF {x : St} {q m : Nat} {w : Int32} : er (x.setMF q m w) = er x := rfl
theorem AddP.s {x y : St} {j n a b : Nat} {w : Int32} (hD : x.LD j = some b) (hb : b ∈ x.PL) (hk : x.PK b = false) (h10 : 10 ≤ x.BN b) (h96 : x.BN b ≤ 96) (hn : n < x.BN b) (hy : y = ((x.setFL j 0 w).setBR b (va_up (x.BR b) n (some a))).setFL j 2 (nI (n + 1))) : AddP x y j n a := by
  subst hy
  refine ⟨by rw [er_setFL, er_setBR, er_setFL], fun c hc => ?_, fun k hkj => ?_, ?_, fun c hc hcj => ?_, b, ?_, ?_, ?_, ?_, ?_, ?_, fun b0 h0 t ht => ?_, ?_, Or.inl hD⟩ <;> simp only [St.acc, u2, va_up_self]
  · exact ⟨hc, trivial, trivial⟩
  · exact ⟨by rw [va_up_ne _ _ hkj, va_up_ne _ _ hkj], trivial⟩
  · exact ⟨trivial, va_up_ne _ _ (fun e : c = b => hcj (e ▸ hD))⟩
  · exact hD
  · exact hb
  · exact hk
  · exact h10
  · exact h96
  · exact hn
  · rw [va_up_ne _ _ (by omega)]
    rw [Option.some.inj (hD.symm.trans h0)]
theorem AddP.f {x y : St} {j n a b q K : Nat} {w : Int32} {F : Nat → Option Nat} (hD : x.LD j = some b) (hq : q ∉ x.PL) (hF : ∀ t, t < x.BN b → F t = x.BR b t) (hn : n = x.BN b) (h10 : 10 ≤ K) (h96 : K ≤ 96) (hK : n + 1 ≤ K) (hy : y = (((((x.setFL j 0 w).addB q K).setBR q F).setLD j (some q)).setBR q (va_up F n (some a))).setFL j 2 (nI (n + 1))) : AddP x y j n a := by
  subst hy
  refine ⟨by rw [er_setFL, er_setBR, er_setLD, er_setBR, er_addB, er_setFL], fun c hc => ?_, fun k hkj => ?_, ?_, fun c hc hcj => ?_, q, ?_, ?_, ?_, ?_, ?_, ?_, fun b0 h0 t ht => ?_, ?_, Or.inr hq⟩ <;> simp only [St.acc, u2, va_up_self]
  · exact ⟨List.mem_append_left _ hc, va_up_ne _ _ (fun e : c = q => hq (e ▸ hc)), trivial⟩
  · exact ⟨by rw [va_up_ne _ _ hkj, va_up_ne _ _ hkj], va_up_ne _ _ hkj⟩
  · have e : c ≠ q := fun e => hq (e ▸ hc)
    exact ⟨va_up_ne _ _ e, by rw [va_up_ne _ _ e, va_up_ne _ _ e, va_up_ne _ _ e]⟩
  · exact List.mem_append_right _ (List.mem_singleton.mpr rfl)
  · exact h10
  · exact h96
  · exact hK
  · rw [va_up_ne _ _ (by omega), hF t (by omega), Option.some.inj (hD.symm.trans h0)]
theorem AddP.n {x y : St} {j a q : Nat} {w : Int32} (hD : x.LD j = none) (hq : q ∉ x.PL) (hy : y = ((((x.setFL j 0 w).addB q 10).setLD j (some q)).setBR q (va_up (fun _ => none) 0 (some a))).setFL j 2 (nI 1)) : AddP x y j 0 a := by
  subst hy
  refine ⟨by rw [er_setFL, er_setBR, er_setLD, er_addB, er_setFL], fun c hc => ?_, fun k hkj => ?_, ?_, fun c hc hcj => ?_, q, ?_, ?_, ?_, ?_, ?_, ?_, fun b0 h0 t ht => ?_, ?_, Or.inr hq⟩ <;> simp only [St.acc, u2, va_up_self]
  · exact ⟨List.mem_append_left _ hc, va_up_ne _ _ (fun e : c = q => hq (e ▸ hc)), trivial⟩
  · exact ⟨by rw [va_up_ne _ _ hkj, va_up_ne _ _ hkj], va_up_ne _ _ hkj⟩
  · have e : c ≠ q := fun e => hq (e ▸ hc)
    exact ⟨va_up_ne _ _ e, by rw [va_up_ne _ _ e, va_up_ne _ _ e]⟩
  · exact List.mem_append_right _ (List.mem_singleton.mpr rfl)
  · omega
  · omega
  · omega
  · omega
theorem in_Jx4a65c_add_9ea2d_Jx4a65c : ∀ w ∈ wsJx4a65c0, w ∈ wsJx4a65c_add_9ea2d := by decide +kernel
theorem lk_Jx4a65c_add_9ea2d_63 : Cond.fieldLink RJx4a65c 63 "java/util/ArrayList" "modCount" "I" ∈ wsJx4a65c_add_9ea2d := by decide +kernel
theorem ls_Jx4a65c_add_9ea2d_modCount : Cond.sameField "java/util/ArrayList" "java/util/AbstractList" "modCount" "I" ∈ wsJx4a65c_add_9ea2d := by decide +kernel
theorem lk_Jx4a65c_add_9ea2d_9 : Cond.fieldLink RJx4a65c 9 "java/util/ArrayList" "elementData" "[Ljava/lang/Object;" ∈ wsJx4a65c_add_9ea2d := by decide +kernel
theorem lk_Jx4a65c_add_9ea2d_48 : Cond.fieldLink RJx4a65c 48 "java/util/ArrayList" "size" "I" ∈ wsJx4a65c_add_9ea2d := by decide +kernel
set_option maxRecDepth 100000 in
set_option maxHeartbeats 400000 in
theorem c_Jx4a65c_add_9ea2d_s (l : Launch) (E : gE) (x : St) (j : Nat) (a : Nat) (b : Nat) (n : Nat) (hj : j < 17) (hD : x.LD j = some b) (hb : b ∈ x.PL) (hkb : x.PK b = false) (hsz : x.FL j 2 = nI n) (hnb : n < x.BN b) (ha : a ∈ x.PL) (hka : x.PK a = true) (h10 : 10 ≤ x.BN b) (h96 : x.BN b ≤ 96) : Ct l yJx4a65c_add_9ea2d wsJx4a65c_add_9ea2d { frames := 6, cells := 1, slots := 96, locals := 205 } E [.ref (aL E j), .ref a] x (fun u y => u = some (.int (nI 1)) ∧ AddP x y j n a) 1 96 := by
  refine Ct.of (cc := cJx4a65c_add_9ea2d) (nL := 2) (ret := (some .boolean)) (by decide) rfl (Nat.le_of_ble_eq_true rfl) ?_
  intro p e s m args below meth c h hr hk hname
  refine g_lvs (lv' := [(0, _), (1, _)]) rfl ?_
  refine g_aload_n h 0 dJx4a65c_add_9ea2d_0 rfl rfl ?_
  refine g_dup h dJx4a65c_add_9ea2d_1 rfl ?_
  refine g_getS (C := RJx4a65c) (T := TJx4a65c) (N := 3) h 0 (wat_L E _ (by omega)) rfl in_Jx4a65c_add_9ea2d_Jx4a65c (by decide) lk_Jx4a65c_add_9ea2d_63 ls_Jx4a65c_add_9ea2d_modCount rfl dJx4a65c_add_9ea2d_2 ?_
  refine g_iconst (v := nI 1) h dJx4a65c_add_9ea2d_5 (by decide) ?_
  refine g_iadd h dJx4a65c_add_9ea2d_6 ?_
  refine g_putS (C := RJx4a65c) (T := TJx4a65c) (N := 3) h 0 tyJx4a65c (ws_L0 E _ (by omega) _) rfl in_Jx4a65c_add_9ea2d_Jx4a65c tyJx4a65c_ok nmJx4a65c (by decide) lk_Jx4a65c_add_9ea2d_63 ls_Jx4a65c_add_9ea2d_modCount rfl rfl rfl rfl (Nat.le_of_ble_eq_true rfl) dJx4a65c_add_9ea2d_7 ?_
  refine g_aload_n h 0 dJx4a65c_add_9ea2d_10 rfl rfl ?_
  refine g_aload_n h 1 dJx4a65c_add_9ea2d_11 rfl rfl ?_
  refine g_aload_n h 0 dJx4a65c_add_9ea2d_12 rfl rfl ?_
  refine g_get (C := RJx4a65c) (T := TJx4a65c) (N := 3) h 1 (wat_L E _ (by omega)) rfl in_Jx4a65c_add_9ea2d_Jx4a65c (by decide) lk_Jx4a65c_add_9ea2d_9 rfl rfl dJx4a65c_add_9ea2d_13 ?_
  refine g_eqv (show Value.ref (((x).LD j).getD E.z) = .ref b from by rw [hD]; rfl) ?_
  refine g_aload_n h 0 dJx4a65c_add_9ea2d_16 rfl rfl ?_
  refine g_get (C := RJx4a65c) (T := TJx4a65c) (N := 3) h 2 (wat_L E _ (by omega)) rfl in_Jx4a65c_add_9ea2d_Jx4a65c (by decide) lk_Jx4a65c_add_9ea2d_48 rfl rfl dJx4a65c_add_9ea2d_17 ?_
  refine g_eqi (FL02.trans hsz) ?_
  refine g_callV (As := [.ref a, .ref b, .int (nI n)]) (C := RJx4a65c) h 3 (c_Jx4a65c_add_72be8_s l E _ j a b n hj ha hka hb hkb hnb h96) rfl gJx4a65c_add_9ea2d_Jx4a65c_add_72be8 rfl rfl rfl rfl (by decide +kernel) ⟨Nat.le_of_ble_eq_true rfl, Nat.le_of_ble_eq_true rfl⟩ (wat_L E _ (by omega)) rfl rfl dJx4a65c_add_9ea2d_20 ⟨by dsimp only; omega, by dsimp only; omega⟩ (Nat.le_of_ble_eq_true rfl) ?_
  rintro _ y ⟨rfl, hy⟩
  dsimp only [Option.toList, List.cons_append, List.nil_append]
  refine g_iconst (v := nI 1) h dJx4a65c_add_9ea2d_23 (by decide) ?_
  exact g_zret h hr hk (by decide) dJx4a65c_add_9ea2d_24 (by omega) (by omega) ⟨rfl, AddP.s hD hb hkb h10 h96 hnb hy⟩
set_option maxRecDepth 100000 in
set_option maxHeartbeats 400000 in
theorem c_Jx4a65c_add_9ea2d_f (l : Launch) (E : gE) (x : St) (j : Nat) (a : Nat) (b : Nat) (n : Nat) (hj : j < 17) (hD : x.LD j = some b) (hb : b ∈ x.PL) (hkb : x.PK b = false) (hsz : x.FL j 2 = nI n) (hnb : n = x.BN b) (hn63 : n ≤ 63) (hel : ∀ t, t < x.BN b → ∀ q, x.BR b t = some q → q ∈ x.PL ∧ x.PK q = true) (ha : a ∈ x.PL) (hka : x.PK a = true) (h10 : 10 ≤ x.BN b) (h96 : x.BN b ≤ 96) : Ct l yJx4a65c_add_9ea2d wsJx4a65c_add_9ea2d { frames := 6, cells := 1, slots := 96, locals := 205 } E [.ref (aL E j), .ref a] x (fun u y => u = some (.int (nI 1)) ∧ AddP x y j n a) 1 96 := by
  refine Ct.of (cc := cJx4a65c_add_9ea2d) (nL := 2) (ret := (some .boolean)) (by decide) rfl (Nat.le_of_ble_eq_true rfl) ?_
  intro p e s m args below meth c h hr hk hname
  refine g_lvs (lv' := [(0, _), (1, _)]) rfl ?_
  have hBN : (x.setFL j 0 (x.FL j 0 + nI 1)).BN b = x.BN b := rfl
  refine g_aload_n h 0 dJx4a65c_add_9ea2d_0 rfl rfl ?_
  refine g_dup h dJx4a65c_add_9ea2d_1 rfl ?_
  refine g_getS (C := RJx4a65c) (T := TJx4a65c) (N := 3) h 0 (wat_L E _ (by omega)) rfl in_Jx4a65c_add_9ea2d_Jx4a65c (by decide) lk_Jx4a65c_add_9ea2d_63 ls_Jx4a65c_add_9ea2d_modCount rfl dJx4a65c_add_9ea2d_2 ?_
  refine g_iconst (v := nI 1) h dJx4a65c_add_9ea2d_5 (by decide) ?_
  refine g_iadd h dJx4a65c_add_9ea2d_6 ?_
  refine g_putS (C := RJx4a65c) (T := TJx4a65c) (N := 3) h 0 tyJx4a65c (ws_L0 E _ (by omega) _) rfl in_Jx4a65c_add_9ea2d_Jx4a65c tyJx4a65c_ok nmJx4a65c (by decide) lk_Jx4a65c_add_9ea2d_63 ls_Jx4a65c_add_9ea2d_modCount rfl rfl rfl rfl (Nat.le_of_ble_eq_true rfl) dJx4a65c_add_9ea2d_7 ?_
  refine g_aload_n h 0 dJx4a65c_add_9ea2d_10 rfl rfl ?_
  refine g_aload_n h 1 dJx4a65c_add_9ea2d_11 rfl rfl ?_
  refine g_aload_n h 0 dJx4a65c_add_9ea2d_12 rfl rfl ?_
  refine g_get (C := RJx4a65c) (T := TJx4a65c) (N := 3) h 1 (wat_L E _ (by omega)) rfl in_Jx4a65c_add_9ea2d_Jx4a65c (by decide) lk_Jx4a65c_add_9ea2d_9 rfl rfl dJx4a65c_add_9ea2d_13 ?_
  refine g_eqv (show Value.ref (((x).LD j).getD E.z) = .ref b from by rw [hD]; rfl) ?_
  refine g_aload_n h 0 dJx4a65c_add_9ea2d_16 rfl rfl ?_
  refine g_get (C := RJx4a65c) (T := TJx4a65c) (N := 3) h 2 (wat_L E _ (by omega)) rfl in_Jx4a65c_add_9ea2d_Jx4a65c (by decide) lk_Jx4a65c_add_9ea2d_48 rfl rfl dJx4a65c_add_9ea2d_17 ?_
  refine g_eqi (FL02.trans hsz) ?_
  refine g_callV (As := [.ref a, .ref b, .int (nI n)]) (C := RJx4a65c) h 3 (c_Jx4a65c_add_72be8_f l E _ j a b n hj hD hb hkb (FL02.trans (hsz.trans (congrArg nI hnb))) (by show 0 < x.BN b; omega) (by show x.BN b ≤ 63; omega) hel ha hka hnb) rfl gJx4a65c_add_9ea2d_Jx4a65c_add_72be8 rfl rfl rfl rfl (by decide +kernel) ⟨Nat.le_of_ble_eq_true rfl, Nat.le_of_ble_eq_true rfl⟩ (wat_L E _ (by omega)) rfl rfl dJx4a65c_add_9ea2d_20 ⟨by dsimp only; omega, by dsimp only; omega⟩ (Nat.le_of_ble_eq_true rfl) ?_
  rintro _ y ⟨rfl, q, F, hq, hF, hy⟩
  dsimp only [Option.toList, List.cons_append, List.nil_append]
  refine g_iconst (v := nI 1) h dJx4a65c_add_9ea2d_23 (by decide) ?_
  exact g_zret h hr hk (by decide) dJx4a65c_add_9ea2d_24 (by omega) (by omega) ⟨rfl, AddP.f (K := (x.BN b + max 1 (x.BN b / 2))) hD hq hF hnb (by omega) (by omega) (by omega) hy⟩
set_option maxRecDepth 100000 in
set_option maxHeartbeats 400000 in
theorem c_Jx4a65c_add_9ea2d_n (l : Launch) (E : gE) (x : St) (j : Nat) (a : Nat) (hj : j < 17) (hD : x.LD j = none) (hsz : x.FL j 2 = nI 0) (ha : a ∈ x.PL) (hka : x.PK a = true) : Ct l yJx4a65c_add_9ea2d wsJx4a65c_add_9ea2d { frames := 6, cells := 1, slots := 96, locals := 205 } E [.ref (aL E j), .ref a] x (fun u y => u = some (.int (nI 1)) ∧ AddP x y j 0 a) 1 96 := by
  refine Ct.of (cc := cJx4a65c_add_9ea2d) (nL := 2) (ret := (some .boolean)) (by decide) rfl (Nat.le_of_ble_eq_true rfl) ?_
  intro p e s m args below meth c h hr hk hname
  refine g_lvs (lv' := [(0, _), (1, _)]) rfl ?_
  refine g_aload_n h 0 dJx4a65c_add_9ea2d_0 rfl rfl ?_
  refine g_dup h dJx4a65c_add_9ea2d_1 rfl ?_
  refine g_getS (C := RJx4a65c) (T := TJx4a65c) (N := 3) h 0 (wat_L E _ (by omega)) rfl in_Jx4a65c_add_9ea2d_Jx4a65c (by decide) lk_Jx4a65c_add_9ea2d_63 ls_Jx4a65c_add_9ea2d_modCount rfl dJx4a65c_add_9ea2d_2 ?_
  refine g_iconst (v := nI 1) h dJx4a65c_add_9ea2d_5 (by decide) ?_
  refine g_iadd h dJx4a65c_add_9ea2d_6 ?_
  refine g_putS (C := RJx4a65c) (T := TJx4a65c) (N := 3) h 0 tyJx4a65c (ws_L0 E _ (by omega) _) rfl in_Jx4a65c_add_9ea2d_Jx4a65c tyJx4a65c_ok nmJx4a65c (by decide) lk_Jx4a65c_add_9ea2d_63 ls_Jx4a65c_add_9ea2d_modCount rfl rfl rfl rfl (Nat.le_of_ble_eq_true rfl) dJx4a65c_add_9ea2d_7 ?_
  refine g_aload_n h 0 dJx4a65c_add_9ea2d_10 rfl rfl ?_
  refine g_aload_n h 1 dJx4a65c_add_9ea2d_11 rfl rfl ?_
  refine g_aload_n h 0 dJx4a65c_add_9ea2d_12 rfl rfl ?_
  refine g_get (C := RJx4a65c) (T := TJx4a65c) (N := 3) h 1 (wat_L E _ (by omega)) rfl in_Jx4a65c_add_9ea2d_Jx4a65c (by decide) lk_Jx4a65c_add_9ea2d_9 rfl rfl dJx4a65c_add_9ea2d_13 ?_
  refine g_eqv (show Value.ref (((x).LD j).getD E.z) = .ref E.z from by rw [hD]; rfl) ?_
  refine g_aload_n h 0 dJx4a65c_add_9ea2d_16 rfl rfl ?_
  refine g_get (C := RJx4a65c) (T := TJx4a65c) (N := 3) h 2 (wat_L E _ (by omega)) rfl in_Jx4a65c_add_9ea2d_Jx4a65c (by decide) lk_Jx4a65c_add_9ea2d_48 rfl rfl dJx4a65c_add_9ea2d_17 ?_
  refine g_eqi (FL02.trans hsz) ?_
  refine g_callV (As := [.ref a, .ref E.z, .int (nI 0)]) (C := RJx4a65c) h 3 (c_Jx4a65c_add_72be8_n l E _ j a hj hD (FL02.trans hsz) ha hka) rfl gJx4a65c_add_9ea2d_Jx4a65c_add_72be8 rfl rfl rfl rfl (by decide +kernel) ⟨Nat.le_of_ble_eq_true rfl, Nat.le_of_ble_eq_true rfl⟩ (wat_L E _ (by omega)) rfl rfl dJx4a65c_add_9ea2d_20 ⟨by dsimp only; omega, by dsimp only; omega⟩ (Nat.le_of_ble_eq_true rfl) ?_
  rintro _ y ⟨rfl, q, hq, hy⟩
  dsimp only [Option.toList, List.cons_append, List.nil_append]
  refine g_iconst (v := nI 1) h dJx4a65c_add_9ea2d_23 (by decide) ?_
  exact g_zret h hr hk (by decide) dJx4a65c_add_9ea2d_24 (by omega) (by omega) ⟨rfl, AddP.n hD hq hy⟩
