theorem Ct.imp {l : Launch} {y : MethodName} {ws : List Cond} {rm : Room} {E : gE} {av : List Value} {x : St} {post post' : Option Value → St → Prop} {mc ms : Nat} (h : Ct l y ws rm E av x post mc ms) (hp : ∀ u z, post u z → post' u z) : Ct l y ws rm E av x post' mc ms := by
  intro sz p e a b c s m args below hf hs hP hk
  obtain ⟨k, o, h1, h2, h3, ⟨⟨u, z, g1, g2, g3⟩, g4⟩, h5⟩ := h sz p e a b c s m args below hf hs hP hk
  exact ⟨k, o, h1, h2, h3, ⟨⟨u, z, g1, hp u z g2, g3⟩, g4⟩, h5⟩
theorem in_Jx4a65c_size_8abf5_Jx4a65c : ∀ w ∈ wsJx4a65c0, w ∈ wsJx4a65c_size_8abf5 := by decide +kernel
theorem lk_Jx4a65c_size_8abf5_48 : Cond.fieldLink RJx4a65c 48 "java/util/ArrayList" "size" "I" ∈ wsJx4a65c_size_8abf5 := by decide +kernel
def r_Jx4a65c_size_8abf5 (x : St) (j : Nat) : Int32 :=
  (x).FL j 2
set_option maxRecDepth 100000 in
set_option maxHeartbeats 400000 in
theorem c_Jx4a65c_size_8abf5 (l : Launch) (E : gE) (x : St) (j : Nat) (hj : j < 17) : Ct l yJx4a65c_size_8abf5 wsJx4a65c_size_8abf5 { frames := 0, cells := 0, slots := 0, locals := 0 } E [.ref (aL E j)] x (fun v y => v = some (.int (r_Jx4a65c_size_8abf5 x j)) ∧ y = x) 0 0 := by
  refine Ct.of (cc := cJx4a65c_size_8abf5) (nL := 1) (ret := (some .int)) (by decide) rfl (Nat.le_of_ble_eq_true rfl) ?_
  intro p e s m args below meth c h hr hk hname
  refine g_lvs (lv' := [(0, _)]) rfl ?_
  refine g_aload_n h 0 dJx4a65c_size_8abf5_0 rfl rfl ?_
  refine g_get (C := RJx4a65c) (T := TJx4a65c) (N := 3) h 2 (wat_L E _ (by omega)) rfl in_Jx4a65c_size_8abf5_Jx4a65c (by decide) lk_Jx4a65c_size_8abf5_48 rfl rfl dJx4a65c_size_8abf5_1 ?_
  exact g_iret h hr hk dJx4a65c_size_8abf5_4 (Nat.zero_le _) (Nat.zero_le _) ⟨congrArg (fun z => some (Value.int z)) (Eq.symm rfl), rfl⟩
theorem in_Jx4a65c_isEmpty_aae02_Jx4a65c : ∀ w ∈ wsJx4a65c0, w ∈ wsJx4a65c_isEmpty_aae02 := by decide +kernel
theorem lk_Jx4a65c_isEmpty_aae02_48 : Cond.fieldLink RJx4a65c 48 "java/util/ArrayList" "size" "I" ∈ wsJx4a65c_isEmpty_aae02 := by decide +kernel
def r_Jx4a65c_isEmpty_aae02 (x : St) (j : Nat) : Nat :=
  if ((x).FL j 2) = 0 then
    1
  else
    0
set_option maxRecDepth 100000 in
set_option maxHeartbeats 400000 in
theorem c_Jx4a65c_isEmpty_aae02 (l : Launch) (E : gE) (x : St) (j : Nat) (hj : j < 17) : Ct l yJx4a65c_isEmpty_aae02 wsJx4a65c_isEmpty_aae02 { frames := 0, cells := 0, slots := 0, locals := 0 } E [.ref (aL E j)] x (fun v y => v = some (.int (nI (r_Jx4a65c_isEmpty_aae02 x j))) ∧ y = x) 0 0 := by
  refine Ct.of (cc := cJx4a65c_isEmpty_aae02) (nL := 1) (ret := (some .boolean)) (by decide) rfl (Nat.le_of_ble_eq_true rfl) ?_
  intro p e s m args below meth c h hr hk hname
  refine g_lvs (lv' := [(0, _)]) rfl ?_
  refine g_aload_n h 0 dJx4a65c_isEmpty_aae02_0 rfl rfl ?_
  refine g_get (C := RJx4a65c) (T := TJx4a65c) (N := 3) h 2 (wat_L E _ (by omega)) rfl in_Jx4a65c_isEmpty_aae02_Jx4a65c (by decide) lk_Jx4a65c_isEmpty_aae02_48 rfl rfl dJx4a65c_isEmpty_aae02_1 ?_
  refine g_if_ne h 11 dJx4a65c_isEmpty_aae02_4 (by decide) (fun c_4 => ?_) (fun c_4 => ?_)
  · skip
    refine g_iconst (v := nI 0) h dJx4a65c_isEmpty_aae02_11 (by decide) ?_
    exact g_zret h hr hk (by decide) dJx4a65c_isEmpty_aae02_12 (Nat.zero_le _) (Nat.zero_le _) ⟨congrArg (fun z => some (Value.int (nI z))) (Eq.symm (if_neg c_4)), rfl⟩
  · skip
    refine g_iconst (v := nI 1) h dJx4a65c_isEmpty_aae02_7 (by decide) ?_
    refine g_goto h 12 dJx4a65c_isEmpty_aae02_8 (by decide) ?_
    exact g_zret h hr hk (by decide) dJx4a65c_isEmpty_aae02_12 (Nat.zero_le _) (Nat.zero_le _) ⟨congrArg (fun z => some (Value.int (nI z))) (Eq.symm (if_pos c_4)), rfl⟩
theorem in_Jx4a65c_elementData_915e3_Jx4a65c : ∀ w ∈ wsJx4a65c0, w ∈ wsJx4a65c_elementData_915e3 := by decide +kernel
theorem lk_Jx4a65c_elementData_915e3_9 : Cond.fieldLink RJx4a65c 9 "java/util/ArrayList" "elementData" "[Ljava/lang/Object;" ∈ wsJx4a65c_elementData_915e3 := by decide +kernel
set_option maxRecDepth 100000 in
set_option maxHeartbeats 400000 in
theorem c_Jx4a65c_elementData_915e3 (l : Launch) (E : gE) (x : St) (j : Nat) (k : Nat) (b : Nat) (q : Nat) (hj : j < 17) (hD : x.LD j = some b) (hb : b ∈ x.PL) (hkb : x.PK b = false) (hn : x.BN b ≤ 96) (hkn : k < x.BN b) (hv : x.BR b k = some q) : Ct l yJx4a65c_elementData_915e3 wsJx4a65c_elementData_915e3 { frames := 0, cells := 0, slots := 0, locals := 0 } E [.ref (aL E j), .int (nI k)] x (fun u y => u = some (.ref q) ∧ y = x) 0 0 := by
  refine Ct.of (cc := cJx4a65c_elementData_915e3) (nL := 2) (ret := (some (.object "java/lang/Object"))) (by decide) rfl (Nat.le_of_ble_eq_true rfl) ?_
  intro p e s m args below meth c h hr hk hname
  refine g_lvs (lv' := [(0, _), (1, _)]) rfl ?_
  refine g_aload_n h 0 dJx4a65c_elementData_915e3_0 rfl rfl ?_
  refine g_get (C := RJx4a65c) (T := TJx4a65c) (N := 3) h 1 (wat_L E _ (by omega)) rfl in_Jx4a65c_elementData_915e3_Jx4a65c (by decide) lk_Jx4a65c_elementData_915e3_9 rfl rfl dJx4a65c_elementData_915e3_1 ?_
  refine g_eqv (show Value.ref (((x).LD j).getD E.z) = .ref b from by rw [hD]; rfl) ?_
  refine g_iload_n h 1 dJx4a65c_elementData_915e3_4 rfl rfl ?_
  refine g_qald (t0 := 4) h (wat_B E _ hb hkb) rfl (by omega) (by omega) hv dJx4a65c_elementData_915e3_5 ?_
  exact g_aret h hr hk (Or.inl ⟨_, rfl⟩) (Or.inr ⟨_, rfl⟩) dJx4a65c_elementData_915e3_6 (Nat.zero_le _) (Nat.zero_le _) ⟨rfl, rfl⟩
set_option maxRecDepth 100000 in
set_option maxHeartbeats 400000 in
theorem c_J3_checkIndex_8e157 (l : Launch) (E : gE) (x : St) (k : Nat) (n : Nat) (hkn : k < n) (hn : n < 2 ^ 31) : Ct l yJ3_checkIndex_8e157 wsJ3_checkIndex_8e157 { frames := 0, cells := 0, slots := 0, locals := 0 } E [.int (nI k), .int (nI n), .null] x (fun v y => v = some (.int (nI (k))) ∧ y = x) 0 0 := by
  refine Ct.of (cc := cJ3_checkIndex_8e157) (nL := 3) (ret := (some .int)) (by decide) rfl (Nat.le_of_ble_eq_true rfl) ?_
  intro p e s m args below meth c h hr hk hname
  refine g_lvs (lv' := [(0, _), (1, _), (2, _)]) rfl ?_
  refine g_iload_n h 0 dJ3_checkIndex_8e157_0 rfl rfl ?_
  refine g_if_lt h 9 dJ3_checkIndex_8e157_1 (by decide) (fun c_1 => absurd c_1 (nI_pos (by omega))) (fun c_1 => ?_)
  refine g_iload_n h 0 dJ3_checkIndex_8e157_4 rfl rfl ?_
  refine g_iload_n h 1 dJ3_checkIndex_8e157_5 rfl rfl ?_
  refine g_icmp_ltN h 16 dJ3_checkIndex_8e157_6 (by decide) (by omega) (by omega) (fun c_6 => ?_) (fun c_6 => absurd c_6 (by omega))
  refine g_iload_n h 0 dJ3_checkIndex_8e157_16 rfl rfl ?_
  exact g_iret h hr hk dJ3_checkIndex_8e157_17 (Nat.zero_le _) (Nat.zero_le _) ⟨rfl, rfl⟩
set_option maxRecDepth 100000 in
set_option maxHeartbeats 400000 in
theorem c_J15_checkIndex_7cf53 (l : Launch) (E : gE) (x : St) (k : Nat) (n : Nat) (hkn : k < n) (hn : n < 2 ^ 31) : Ct l yJ15_checkIndex_7cf53 wsJ15_checkIndex_7cf53 { frames := 1, cells := 0, slots := 0, locals := 22 } E [.int (nI k), .int (nI n)] x (fun v y => v = some (.int (nI (k))) ∧ y = x) 0 0 := by
  refine Ct.of (cc := cJ15_checkIndex_7cf53) (nL := 2) (ret := (some .int)) (by decide) rfl (Nat.le_of_ble_eq_true rfl) ?_
  intro p e s m args below meth c h hr hk hname
  refine g_lvs (lv' := [(0, _), (1, _)]) rfl ?_
  refine g_iload_n h 0 dJ15_checkIndex_7cf53_0 rfl rfl ?_
  refine g_iload_n h 1 dJ15_checkIndex_7cf53_1 rfl rfl ?_
  refine g_aconst_null h dJ15_checkIndex_7cf53_2 ?_
  refine g_callS (As := [.int (nI k), .int (nI n), .null]) h 3 (c_J3_checkIndex_8e157 l E _ k n (by omega) (by omega)) rfl gJ15_checkIndex_7cf53_J3_checkIndex_8e157 rfl rfl rfl rfl (by decide +kernel) ⟨Nat.le_of_ble_eq_true rfl, Nat.le_of_ble_eq_true rfl⟩ dJ15_checkIndex_7cf53_3 ⟨Nat.le_refl _, Nat.le_refl _⟩ (Nat.le_of_ble_eq_true rfl) ?_
  rintro _ _ ⟨rfl, hy⟩
  obtain rfl := hy.symm
  dsimp only [Option.toList, List.cons_append, List.nil_append]
  exact g_iret h hr hk dJ15_checkIndex_7cf53_6 (Nat.zero_le _) (Nat.zero_le _) ⟨rfl, rfl⟩
theorem in_Jx4a65c_get_915e3_Jx4a65c : ∀ w ∈ wsJx4a65c0, w ∈ wsJx4a65c_get_915e3 := by decide +kernel
theorem lk_Jx4a65c_get_915e3_48 : Cond.fieldLink RJx4a65c 48 "java/util/ArrayList" "size" "I" ∈ wsJx4a65c_get_915e3 := by decide +kernel
set_option maxRecDepth 100000 in
set_option maxHeartbeats 400000 in
theorem c_Jx4a65c_get_915e3 (l : Launch) (E : gE) (x : St) (j : Nat) (k : Nat) (b : Nat) (q : Nat) (n : Nat) (hj : j < 17) (hD : x.LD j = some b) (hb : b ∈ x.PL) (hkb : x.PK b = false) (hn : x.BN b ≤ 96) (hsz : x.FL j 2 = nI n) (hnb : n ≤ x.BN b) (hkn : k < n) (hv : x.BR b k = some q) : Ct l yJx4a65c_get_915e3 wsJx4a65c_get_915e3 { frames := 2, cells := 0, slots := 0, locals := 43 } E [.ref (aL E j), .int (nI k)] x (fun u y => u = some (.ref q) ∧ y = x) 0 0 := by
  refine Ct.of (cc := cJx4a65c_get_915e3) (nL := 2) (ret := (some (.object "java/lang/Object"))) (by decide) rfl (Nat.le_of_ble_eq_true rfl) ?_
  intro p e s m args below meth c h hr hk hname
  refine g_lvs (lv' := [(0, _), (1, _)]) rfl ?_
  refine g_iload_n h 1 dJx4a65c_get_915e3_0 rfl rfl ?_
  refine g_aload_n h 0 dJx4a65c_get_915e3_1 rfl rfl ?_
  refine g_get (C := RJx4a65c) (T := TJx4a65c) (N := 3) h 2 (wat_L E _ (by omega)) rfl in_Jx4a65c_get_915e3_Jx4a65c (by decide) lk_Jx4a65c_get_915e3_48 rfl rfl dJx4a65c_get_915e3_2 ?_
  refine g_eqi (hsz) ?_
  refine g_callS (As := [.int (nI k), .int (nI n)]) h 2 (c_J15_checkIndex_7cf53 l E _ k n (by omega) (by omega)) rfl gJx4a65c_get_915e3_J15_checkIndex_7cf53 rfl rfl rfl rfl (by decide +kernel) ⟨Nat.le_of_ble_eq_true rfl, Nat.le_of_ble_eq_true rfl⟩ dJx4a65c_get_915e3_5 ⟨Nat.le_refl _, Nat.le_refl _⟩ (Nat.le_of_ble_eq_true rfl) ?_
  rintro _ _ ⟨rfl, hy⟩
  obtain rfl := hy.symm
  dsimp only [Option.toList, List.cons_append, List.nil_append]
  refine g_pop h dJx4a65c_get_915e3_8 rfl ?_
  refine g_aload_n h 0 dJx4a65c_get_915e3_9 rfl rfl ?_
  refine g_iload_n h 1 dJx4a65c_get_915e3_10 rfl rfl ?_
  refine g_callV (As := [.int (nI k)]) (C := RJx4a65c) h 1 (c_Jx4a65c_elementData_915e3 l E _ j k b q hj hD hb hkb hn (by omega) hv) rfl gJx4a65c_get_915e3_Jx4a65c_elementData_915e3 rfl rfl rfl rfl (by decide +kernel) ⟨Nat.le_of_ble_eq_true rfl, Nat.le_of_ble_eq_true rfl⟩ (wat_L E _ (by omega)) rfl rfl dJx4a65c_get_915e3_11 ⟨Nat.le_refl _, Nat.le_refl _⟩ (Nat.le_of_ble_eq_true rfl) ?_
  rintro _ _ ⟨rfl, hy⟩
  obtain rfl := hy.symm
  dsimp only [Option.toList, List.cons_append, List.nil_append]
  exact g_aret h hr hk (Or.inl ⟨_, rfl⟩) (Or.inr ⟨_, rfl⟩) dJx4a65c_get_915e3_14 (Nat.zero_le _) (Nat.zero_le _) ⟨rfl, rfl⟩
theorem FL02 {x : St} {j : Nat} {w : Int32} : (x.setFL j 0 w).FL j 2 = x.FL j 2 := by
  rw [St.FL_setFL]
  show va_up x.FL j (va_up (x.FL j) 0 w) j 2 = _
  rw [va_up_self, va_up_ne _ _ (by decide)]
theorem St.ext {x y : St} (h0 : x.FC = y.FC) (h1 : x.FR = y.FR) (h2 : x.AC = y.AC) (h3 : x.FH = y.FH) (h4 : x.FL = y.FL) (h5 : x.LD = y.LD) (h6 : x.FM = y.FM) (h7 : x.AM = y.AM) (h8 : x.OU = y.OU) (h9 : x.PL = y.PL) (h10 : x.PK = y.PK) (h11 : x.MF = y.MF) (h12 : x.BN = y.BN) (h13 : x.BR = y.BR) : x = y := by
  exact (show (show StT from x) = (show StT from y) from (Prod.ext h0 (Prod.ext h1 (Prod.ext h2 (Prod.ext h3 (Prod.ext h4 (Prod.ext h5 (Prod.ext h6 (Prod.ext h7 (Prod.ext h8 (Prod.ext h9 (Prod.ext h10 (Prod.ext h11 (Prod.ext h12 h13))))))))))))))
theorem BR_FL_BR {x : St} {b j m : Nat} {w : Int32} {f g : Nat → Option Nat} : ((x.setBR b f).setFL j m w).setBR b g = (x.setFL j m w).setBR b g := by
  apply St.ext <;> simp only [St.acc]
  exact bx_uu _ _ _ _
theorem frA {f : Nat → Option Nat} {n k : Nat} (h : n - 1 ≤ k) (t : Nat) (ht : t < n - 1) : va_up f (n - 1) none t = if t < k then f t else f (t + 1) := by
  rw [va_up_ne _ _ (by omega), if_pos (by omega)]
theorem frB {f F : Nat → Option Nat} {n k : Nat} (hF : F = va_cpy f f (k + 1) k (n - 1 - k)) (t : Nat) (ht : t < n - 1) : va_up F (n - 1) none t = if t < k then f t else f (t + 1) := by
  rw [va_up_ne _ _ (by omega), hF]
  by_cases h : t < k
  · rw [if_pos h, pk_cpy_out (Or.inl h)]
  · rw [if_neg h, pk_cpy_in (by omega) (by omega)]
    congr 1
    omega
theorem in_Jx4a65c_fastRemove_b59b0_Jx4a65c : ∀ w ∈ wsJx4a65c0, w ∈ wsJx4a65c_fastRemove_b59b0 := by decide +kernel
theorem lk_Jx4a65c_fastRemove_b59b0_63 : Cond.fieldLink RJx4a65c 63 "java/util/ArrayList" "modCount" "I" ∈ wsJx4a65c_fastRemove_b59b0 := by decide +kernel
theorem ls_Jx4a65c_fastRemove_b59b0_modCount : Cond.sameField "java/util/ArrayList" "java/util/AbstractList" "modCount" "I" ∈ wsJx4a65c_fastRemove_b59b0 := by decide +kernel
theorem lk_Jx4a65c_fastRemove_b59b0_48 : Cond.fieldLink RJx4a65c 48 "java/util/ArrayList" "size" "I" ∈ wsJx4a65c_fastRemove_b59b0 := by decide +kernel
set_option maxRecDepth 100000 in
set_option maxHeartbeats 400000 in
theorem c_Jx4a65c_fastRemove_b59b0 (l : Launch) (E : gE) (x : St) (j : Nat) (k : Nat) (b : Nat) (n : Nat) (hj : j < 17) (hD : x.LD j = some b) (hb : b ∈ x.PL) (hkb : x.PK b = false) (hn : x.BN b ≤ 96) (hsz : x.FL j 2 = nI n) (hnb : n ≤ x.BN b) (hkn : k < n) (hel : ∀ t, t < n → ∀ q, x.BR b t = some q → q ∈ x.PL ∧ x.PK q = true) : Ct l yJx4a65c_fastRemove_b59b0 wsJx4a65c_fastRemove_b59b0 { frames := 1, cells := 0, slots := 0, locals := 60 } E [.ref (aL E j), .ref b, .int (nI k)] x (fun u y => u = none ∧ ∃ g : Nat → Option Nat, (∀ t, t < n - 1 → g t = if t < k then x.BR b t else x.BR b (t + 1)) ∧ y = ((x.setFL j 0 (x.FL j 0 + nI 1)).setFL j 2 (nI (n - 1))).setBR b g) 0 0 := by
  refine Ct.of (cc := cJx4a65c_fastRemove_b59b0) (nL := 4) (ret := none) (by decide) rfl (Nat.le_of_ble_eq_true rfl) ?_
  intro p e s m args below meth c h hr hk hname
  refine g_lvs (lv' := [(0, _), (1, _), (2, _)]) rfl ?_
  refine g_aload_n h 0 dJx4a65c_fastRemove_b59b0_0 rfl rfl ?_
  refine g_dup h dJx4a65c_fastRemove_b59b0_1 rfl ?_
  refine g_getS (C := RJx4a65c) (T := TJx4a65c) (N := 3) h 0 (wat_L E _ (by omega)) rfl in_Jx4a65c_fastRemove_b59b0_Jx4a65c (by decide) lk_Jx4a65c_fastRemove_b59b0_63 ls_Jx4a65c_fastRemove_b59b0_modCount rfl dJx4a65c_fastRemove_b59b0_2 ?_
  refine g_iconst (v := nI 1) h dJx4a65c_fastRemove_b59b0_5 (by decide) ?_
  refine g_iadd h dJx4a65c_fastRemove_b59b0_6 ?_
  refine g_putS (C := RJx4a65c) (T := TJx4a65c) (N := 3) h 0 tyJx4a65c (ws_L0 E _ (by omega) _) rfl in_Jx4a65c_fastRemove_b59b0_Jx4a65c tyJx4a65c_ok nmJx4a65c (by decide) lk_Jx4a65c_fastRemove_b59b0_63 ls_Jx4a65c_fastRemove_b59b0_modCount rfl rfl rfl rfl (Nat.le_of_ble_eq_true rfl) dJx4a65c_fastRemove_b59b0_7 ?_
  refine g_aload_n h 0 dJx4a65c_fastRemove_b59b0_10 rfl rfl ?_
  refine g_get (C := RJx4a65c) (T := TJx4a65c) (N := 3) h 2 (wat_L E _ (by omega)) rfl in_Jx4a65c_fastRemove_b59b0_Jx4a65c (by decide) lk_Jx4a65c_fastRemove_b59b0_48 rfl rfl dJx4a65c_fastRemove_b59b0_11 ?_
  refine g_eqi (FL02.trans hsz) ?_
  refine g_iconst (v := nI 1) h dJx4a65c_fastRemove_b59b0_14 (by decide) ?_
  refine g_isubN h dJx4a65c_fastRemove_b59b0_15 (by omega) ?_
  refine g_dup h dJx4a65c_fastRemove_b59b0_16 rfl ?_
  refine g_istore_n (lv' := [(0, _), (1, _), (2, _), (3, _)]) h [1, 2, 3, 0] dJx4a65c_fastRemove_b59b0_17 rfl (by decide) rfl ?_
  refine g_iload_n h 2 dJx4a65c_fastRemove_b59b0_18 rfl rfl ?_
  refine g_icmp_leN h 34 dJx4a65c_fastRemove_b59b0_19 (by decide) (by omega) (by omega) (fun c_19 => ?_) (fun c_19 => ?_)
  · skip
    refine g_aload_n h 1 dJx4a65c_fastRemove_b59b0_34 rfl rfl ?_
    refine g_aload_n h 0 dJx4a65c_fastRemove_b59b0_35 rfl rfl ?_
    refine g_iload_n h 3 dJx4a65c_fastRemove_b59b0_36 rfl rfl ?_
    refine g_dup_x1 h dJx4a65c_fastRemove_b59b0_37 rfl rfl ?_
    refine g_put (C := RJx4a65c) (T := TJx4a65c) (N := 3) h 2 tyJx4a65c (ws_L2 E _ (by omega) _) rfl in_Jx4a65c_fastRemove_b59b0_Jx4a65c tyJx4a65c_ok nmJx4a65c (by decide) lk_Jx4a65c_fastRemove_b59b0_48 rfl rfl rfl rfl rfl (Nat.le_of_ble_eq_true rfl) dJx4a65c_fastRemove_b59b0_38 ?_
    refine g_aconst_null h dJx4a65c_fastRemove_b59b0_41 ?_
    refine g_astN (n := x.BN b) (f := (((((x).setFL j 0 (((x).FL j 0) + (nI 1)))).setFL j 2 (nI (n - 1)))).BR b) h (ws_B E (((((x).setFL j 0 (((x).FL j 0) + (nI 1)))).setFL j 2 (nI (n - 1)))) hb hkb _) (by omega) (by omega) dJx4a65c_fastRemove_b59b0_42 ?_
    exact g_vret h hr hk dJx4a65c_fastRemove_b59b0_43 (Nat.zero_le _) (Nat.zero_le _) ⟨rfl, _, frA c_19, rfl⟩
  · skip
    refine g_aload_n h 1 dJx4a65c_fastRemove_b59b0_22 rfl rfl ?_
    refine g_iload_n h 2 dJx4a65c_fastRemove_b59b0_23 rfl rfl ?_
    refine g_iconst (v := nI 1) h dJx4a65c_fastRemove_b59b0_24 (by decide) ?_
    refine g_iaddN h dJx4a65c_fastRemove_b59b0_25 ?_
    refine g_aload_n h 1 dJx4a65c_fastRemove_b59b0_26 rfl rfl ?_
    refine g_iload_n h 2 dJx4a65c_fastRemove_b59b0_27 rfl rfl ?_
    refine g_iload_n h 3 dJx4a65c_fastRemove_b59b0_28 rfl rfl ?_
    refine g_iload_n h 2 dJx4a65c_fastRemove_b59b0_29 rfl rfl ?_
    refine g_isubN h dJx4a65c_fastRemove_b59b0_30 (by omega) ?_
    refine g_copyM h (by decide +kernel) (by decide +kernel) (by decide +kernel) (by decide +kernel) (n0 := x.BN b) (n1 := x.BN b) (f := x.BR b) (g := x.BR b) (wat_B E (((x).setFL j 0 (((x).FL j 0) + (nI 1)))) hb hkb) (ws_B E (((x).setFL j 0 (((x).FL j 0) + (nI 1)))) hb hkb _) (by omega) (by omega) (by omega) (by omega) (fun t ht q hq => hel _ (by omega) q hq) (Nat.le_of_ble_eq_true rfl) (Nat.le_of_ble_eq_true rfl) dJx4a65c_fastRemove_b59b0_31 ?_
    refine g_aload_n h 1 dJx4a65c_fastRemove_b59b0_34 rfl rfl ?_
    refine g_aload_n h 0 dJx4a65c_fastRemove_b59b0_35 rfl rfl ?_
    refine g_iload_n h 3 dJx4a65c_fastRemove_b59b0_36 rfl rfl ?_
    refine g_dup_x1 h dJx4a65c_fastRemove_b59b0_37 rfl rfl ?_
    refine g_put (C := RJx4a65c) (T := TJx4a65c) (N := 3) h 2 tyJx4a65c (ws_L2 E _ (by omega) _) rfl in_Jx4a65c_fastRemove_b59b0_Jx4a65c tyJx4a65c_ok nmJx4a65c (by decide) lk_Jx4a65c_fastRemove_b59b0_48 rfl rfl rfl rfl rfl (Nat.le_of_ble_eq_true rfl) dJx4a65c_fastRemove_b59b0_38 ?_
    refine g_aconst_null h dJx4a65c_fastRemove_b59b0_41 ?_
    refine g_astN (n := x.BN b) (f := ((((((x).setFL j 0 (((x).FL j 0) + (nI 1)))).setBR b (va_cpy (x.BR b) (x.BR b) (k + 1) k (n - 1 - k))).setFL j 2 (nI (n - 1)))).BR b) h (ws_B E ((((((x).setFL j 0 (((x).FL j 0) + (nI 1)))).setBR b (va_cpy (x.BR b) (x.BR b) (k + 1) k (n - 1 - k))).setFL j 2 (nI (n - 1)))) hb hkb _) (by omega) (by omega) dJx4a65c_fastRemove_b59b0_42 ?_
    refine g_vret h hr hk dJx4a65c_fastRemove_b59b0_43 (Nat.zero_le _) (Nat.zero_le _) ⟨rfl, _, ?_, BR_FL_BR⟩
    exact frB (va_up_self _ _ _)
theorem in_Jx4a65c_remove_915e3_Jx4a65c : ∀ w ∈ wsJx4a65c0, w ∈ wsJx4a65c_remove_915e3 := by decide +kernel
theorem lk_Jx4a65c_remove_915e3_48 : Cond.fieldLink RJx4a65c 48 "java/util/ArrayList" "size" "I" ∈ wsJx4a65c_remove_915e3 := by decide +kernel
theorem lk_Jx4a65c_remove_915e3_9 : Cond.fieldLink RJx4a65c 9 "java/util/ArrayList" "elementData" "[Ljava/lang/Object;" ∈ wsJx4a65c_remove_915e3 := by decide +kernel
set_option maxRecDepth 100000 in
set_option maxHeartbeats 400000 in
theorem c_Jx4a65c_remove_915e3 (l : Launch) (E : gE) (x : St) (j : Nat) (k : Nat) (b : Nat) (q : Nat) (n : Nat) (hj : j < 17) (hD : x.LD j = some b) (hb : b ∈ x.PL) (hkb : x.PK b = false) (hn : x.BN b ≤ 96) (hsz : x.FL j 2 = nI n) (hnb : n ≤ x.BN b) (hkn : k < n) (hv : x.BR b k = some q) (hel : ∀ t, t < n → ∀ q, x.BR b t = some q → q ∈ x.PL ∧ x.PK q = true) : Ct l yJx4a65c_remove_915e3 wsJx4a65c_remove_915e3 { frames := 2, cells := 0, slots := 0, locals := 83 } E [.ref (aL E j), .int (nI k)] x (fun u y => u = some (.ref q) ∧ ∃ g : Nat → Option Nat, (∀ t, t < n - 1 → g t = if t < k then x.BR b t else x.BR b (t + 1)) ∧ y = ((x.setFL j 0 (x.FL j 0 + nI 1)).setFL j 2 (nI (n - 1))).setBR b g) 0 0 := by
  refine Ct.of (cc := cJx4a65c_remove_915e3) (nL := 4) (ret := (some (.object "java/lang/Object"))) (by decide) rfl (Nat.le_of_ble_eq_true rfl) ?_
  intro p e s m args below meth c h hr hk hname
  refine g_lvs (lv' := [(0, _), (1, _)]) rfl ?_
  refine g_iload_n h 1 dJx4a65c_remove_915e3_0 rfl rfl ?_
  refine g_aload_n h 0 dJx4a65c_remove_915e3_1 rfl rfl ?_
  refine g_get (C := RJx4a65c) (T := TJx4a65c) (N := 3) h 2 (wat_L E _ (by omega)) rfl in_Jx4a65c_remove_915e3_Jx4a65c (by decide) lk_Jx4a65c_remove_915e3_48 rfl rfl dJx4a65c_remove_915e3_2 ?_
  refine g_eqi (hsz) ?_
  refine g_callS (As := [.int (nI k), .int (nI n)]) h 2 (c_J15_checkIndex_7cf53 l E _ k n (by omega) (by omega)) rfl gJx4a65c_remove_915e3_J15_checkIndex_7cf53 rfl rfl rfl rfl (by decide +kernel) ⟨Nat.le_of_ble_eq_true rfl, Nat.le_of_ble_eq_true rfl⟩ dJx4a65c_remove_915e3_5 ⟨Nat.le_refl _, Nat.le_refl _⟩ (Nat.le_of_ble_eq_true rfl) ?_
  rintro _ _ ⟨rfl, hy⟩
  obtain rfl := hy.symm
  dsimp only [Option.toList, List.cons_append, List.nil_append]
  refine g_pop h dJx4a65c_remove_915e3_8 rfl ?_
  refine g_aload_n h 0 dJx4a65c_remove_915e3_9 rfl rfl ?_
  refine g_get (C := RJx4a65c) (T := TJx4a65c) (N := 3) h 1 (wat_L E _ (by omega)) rfl in_Jx4a65c_remove_915e3_Jx4a65c (by decide) lk_Jx4a65c_remove_915e3_9 rfl rfl dJx4a65c_remove_915e3_10 ?_
  refine g_eqv (show Value.ref (((x).LD j).getD E.z) = .ref b from by rw [hD]; rfl) ?_
  refine g_astore_n (lv' := [(0, _), (1, _), (2, _)]) h [1, 2, 0] dJx4a65c_remove_915e3_13 rfl (by decide) rfl ?_
  refine g_aload_n h 2 dJx4a65c_remove_915e3_14 rfl rfl ?_
  refine g_iload_n h 1 dJx4a65c_remove_915e3_15 rfl rfl ?_
  refine g_qald (t0 := 4) h (wat_B E _ hb hkb) rfl (by omega) (by omega) hv dJx4a65c_remove_915e3_16 ?_
  refine g_astore_n (lv' := [(0, _), (1, _), (2, _), (3, _)]) h [1, 2, 3, 0] dJx4a65c_remove_915e3_17 rfl (by decide) rfl ?_
  refine g_aload_n h 0 dJx4a65c_remove_915e3_18 rfl rfl ?_
  refine g_aload_n h 2 dJx4a65c_remove_915e3_19 rfl rfl ?_
  refine g_iload_n h 1 dJx4a65c_remove_915e3_20 rfl rfl ?_
  refine g_callV (As := [.ref b, .int (nI k)]) (C := RJx4a65c) h 2 (c_Jx4a65c_fastRemove_b59b0 l E _ j k b n hj hD hb hkb hn hsz hnb hkn hel) rfl gJx4a65c_remove_915e3_Jx4a65c_fastRemove_b59b0 rfl rfl rfl rfl (by decide +kernel) ⟨Nat.le_of_ble_eq_true rfl, Nat.le_of_ble_eq_true rfl⟩ (wat_L E _ (by omega)) rfl rfl dJx4a65c_remove_915e3_21 ⟨Nat.le_refl _, Nat.le_refl _⟩ (Nat.le_of_ble_eq_true rfl) ?_
  rintro _ y ⟨rfl, g, hg, hy⟩
  dsimp only [Option.toList, List.cons_append, List.nil_append]
  refine g_aload_n h 3 dJx4a65c_remove_915e3_24 rfl rfl ?_
  exact g_aret h hr hk (Or.inl ⟨_, rfl⟩) (Or.inr ⟨_, rfl⟩) dJx4a65c_remove_915e3_25 (Nat.zero_le _) (Nat.zero_le _) ⟨rfl, g, hg, hy⟩
set_option maxRecDepth 100000 in
set_option maxHeartbeats 400000 in
theorem c_J8_newLength_cabcc (l : Launch) (E : gE) (x : St) (a : Nat) (b : Nat) (d : Nat) (ha : 0 < a) (hb : a + max b d ≤ 1000) : Ct l yJ8_newLength_cabcc wsJ8_newLength_cabcc { frames := 1, cells := 0, slots := 0, locals := 60 } E [.int (nI a), .int (nI b), .int (nI d)] x (fun v y => v = some (.int (nI (a + max b d))) ∧ y = x) 0 0 := by
  refine Ct.of (cc := cJ8_newLength_cabcc) (nL := 4) (ret := (some .int)) (by decide) rfl (Nat.le_of_ble_eq_true rfl) ?_
  intro p e s m args below meth c h hr hk hname
  refine g_lvs (lv' := [(0, _), (1, _), (2, _)]) rfl ?_
  refine g_iload_n h 0 dJ8_newLength_cabcc_0 rfl rfl ?_
  refine g_iload_n h 1 dJ8_newLength_cabcc_1 rfl rfl ?_
  refine g_iload_n h 2 dJ8_newLength_cabcc_2 rfl rfl ?_
  refine g_max h (by decide +kernel) (by decide +kernel) (by decide +kernel) (by decide +kernel) (by omega) (by omega) (Nat.le_of_ble_eq_true rfl) (Nat.le_of_ble_eq_true rfl) (Nat.zero_le _) (Nat.zero_le _) dJ8_newLength_cabcc_3 ?_
  refine g_iaddN h dJ8_newLength_cabcc_6 ?_
  refine g_istore_n (lv' := [(0, _), (1, _), (2, _), (3, _)]) h [1, 2, 3, 0] dJ8_newLength_cabcc_7 rfl (by decide) rfl ?_
  refine g_iconst (v := nI 0) h dJ8_newLength_cabcc_8 (by decide) ?_
  refine g_iload_n h 3 dJ8_newLength_cabcc_9 rfl rfl ?_
  refine g_icmp_geN h 21 dJ8_newLength_cabcc_10 (by decide) (by omega) (by omega) (fun c_10 => absurd c_10 (by omega)) (fun c_10 => ?_)
  refine g_iload_n h 3 dJ8_newLength_cabcc_13 rfl rfl ?_
  refine g_ldc (v := 2147483639) h dJ8_newLength_cabcc_14 (by decide +kernel) ?_
  refine g_icmp_gt h 21 dJ8_newLength_cabcc_16 (by decide) (fun c_16 => absurd c_16 (nI_nlt (a := 2147483639) (by omega) (by decide))) (fun c_16 => ?_)
  refine g_iload_n h 3 dJ8_newLength_cabcc_19 rfl rfl ?_
  exact g_iret h hr hk dJ8_newLength_cabcc_20 (Nat.zero_le _) (Nat.zero_le _) ⟨rfl, rfl⟩
