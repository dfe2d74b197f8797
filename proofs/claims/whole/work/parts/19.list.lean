theorem Ct.imp {l : Launch} {y : MethodName} {ws : List Cond} {rm : Room} {E : gE} {av : List Value} {x : St} {post post' : Option Value → St → Prop} {mc ms : Nat} (h : Ct l y ws rm E av x post mc ms) (hp : ∀ u z, post u z → post' u z) : Ct l y ws rm E av x post' mc ms := by
  intro sz p e a b c s m args below hf hs hP hk
  obtain ⟨k, o, h1, h2, h3, ⟨⟨u, z, g1, g2, g3⟩, g4⟩, h5⟩ := h sz p e a b c s m args below hf hs hP hk
  exact ⟨k, o, h1, h2, h3, ⟨⟨u, z, g1, hp u z g2, g3⟩, g4⟩, h5⟩
theorem in_Jx4a65c_size_8abf5_Jx4a65c : ∀ w ∈ wsJx4a65c0, w ∈ wsJx4a65c_size_8abf5 := by decide +kernel
theorem lk_Jx4a65c_size_8abf5_48 : Cond.fieldLink RJx4a65c 48 "java/util/ArrayList" "size" "I" ∈ wsJx4a65c_size_8abf5 := by decide +kernel
def r_Jx4a65c_size_8abf5 (x : St) (j : Nat) : Int32 :=
  (x).FL j 2
set_option maxRecDepth 100000 in
set_option maxHeartbeats 400000 in
theorem c_Jx4a65c_size_8abf5 (l : Launch) (E : gE) (x : St) (j : Nat) (hj : j < 17) : Ct l yJx4a65c_size_8abf5 wsJx4a65c_size_8abf5 { frames := 0, cells := 0, slots := 0, locals := 0 } E [.ref (aL E j)] x (fun v y => v = some (.int (r_Jx4a65c_size_8abf5 x j)) ∧ y = x) 0 0 := by
  refine Ct.of (cc := cJx4a65c_size_8abf5) (nL := 1) (ret := (some .int)) (by decide) rfl (Nat.le_of_ble_eq_true rfl) ?_
  intro p e s m args below meth c h hr hk hname
  refine g_lvs (lv' := [(0, _)]) rfl ?_
  refine g_aload_n h 0 dJx4a65c_size_8abf5_0 rfl rfl ?_
  refine g_get (C := RJx4a65c) (T := TJx4a65c) (N := 3) h 2 (wat_L E _ (by omega)) rfl in_Jx4a65c_size_8abf5_Jx4a65c (by decide) lk_Jx4a65c_size_8abf5_48 rfl rfl dJx4a65c_size_8abf5_1 ?_
  exact g_iret h hr hk dJx4a65c_size_8abf5_4 (Nat.zero_le _) (Nat.zero_le _) ⟨congrArg (fun z => some (Value.int z)) (Eq.symm rfl), rfl⟩
theorem in_Jx4a65c_isEmpty_aae02_Jx4a65c : ∀ w ∈ wsJx4a65c0, w ∈ wsJx4a65c_isEmpty_aae02 := by decide +kernel
theorem lk_Jx4a65c_isEmpty_aae02_48 : Cond.fieldLink RJx4a65c 48 "java/util/ArrayList" "size" "I" ∈ wsJx4a65c_isEmpty_aae02 := by decide +kernel
def r_Jx4a65c_isEmpty_aae02 (x : St) (j : Nat) : Nat :=
  if ((x).FL j 2) = 0 then
    1
  else
    0
set_option maxRecDepth 100000 in
set_option maxHeartbeats 400000 in
theorem c_Jx4a65c_isEmpty_aae02 (l : Launch) (E : gE) (x : St) (j : Nat) (hj : j < 17) : Ct l yJx4a65c_isEmpty_aae02 wsJx4a65c_isEmpty_aae02 { frames := 0, cells := 0, slots := 0, locals := 0 } E [.ref (aL E j)] x (fun v y => v = some (.int (nI (r_Jx4a65c_isEmpty_aae02 x j))) ∧ y = x) 0 0 := by
  refine Ct.of (cc := cJx4a65c_isEmpty_aae02) (nL := 1) (ret := (some .boolean)) (by decide) rfl (Nat.le_of_ble_eq_true rfl) ?_
  intro p e s m args below meth c h hr hk hname
  refine g_lvs (lv' := [(0, _)]) rfl ?_
  refine g_aload_n h 0 dJx4a65c_isEmpty_aae02_0 rfl rfl ?_
  refine g_get (C := RJx4a65c) (T := TJx4a65c) (N := 3) h 2 (wat_L E _ (by omega)) rfl in_Jx4a65c_isEmpty_aae02_Jx4a65c (by decide) lk_Jx4a65c_isEmpty_aae02_48 rfl rfl dJx4a65c_isEmpty_aae02_1 ?_
  refine g_if_ne h 11 dJx4a65c_isEmpty_aae02_4 (by decide) (fun c_4 => ?_) (fun c_4 => ?_)
  · skip
    refine g_iconst (v := nI 0) h dJx4a65c_isEmpty_aae02_11 (by decide) ?_
    exact g_zret h hr hk (by decide) dJx4a65c_isEmpty_aae02_12 (Nat.zero_le _) (Nat.zero_le _) ⟨congrArg (fun z => some (Value.int (nI z))) (Eq.symm (if_neg c_4)), rfl⟩
  · skip
    refine g_iconst (v := nI 1) h dJx4a65c_isEmpty_aae02_7 (by decide) ?_
    refine g_goto h 12 dJx4a65c_isEmpty_aae02_8 (by decide) ?_
    exact g_zret h hr hk (by decide) dJx4a65c_isEmpty_aae02_12 (Nat.zero_le _) (Nat.zero_le _) ⟨congrArg (fun z => some (Value.int (nI z))) (Eq.symm (if_pos c_4)), rfl⟩
theorem in_Jx4a65c_elementData_915e3_Jx4a65c : ∀ w ∈ wsJx4a65c0, w ∈ wsJx4a65c_elementData_915e3 := by decide +kernel
theorem lk_Jx4a65c_elementData_915e3_9 : Cond.fieldLink RJx4a65c 9 "java/util/ArrayList" "elementData" "[Ljava/lang/Object;" ∈ wsJx4a65c_elementData_915e3 := by decide +kernel
set_option maxRecDepth 100000 in
set_option maxHeartbeats 400000 in
theorem c_Jx4a65c_elementData_915e3 (l : Launch) (E : gE) (x : St) (j : Nat) (k : Nat) (b : Nat) (q : Nat) (hj : j < 17) (hD : x.LD j = some b) (hb : b ∈ x.PL) (hkb : x.PK b = false) (hn : x.BN b ≤ 96) (hkn : k < x.BN b) (hv : x.BR b k = some q) : Ct l yJx4a65c_elementData_915e3 wsJx4a65c_elementData_915e3 { frames := 0, cells := 0, slots := 0, locals := 0 } E [.ref (aL E j), .int (nI k)] x (fun u y => u = some (.ref q) ∧ y = x) 0 0 := by
  refine Ct.of (cc := cJx4a65c_elementData_915e3) (nL := 2) (ret := (some (.object "java/lang/Object"))) (by decide) rfl (Nat.le_of_ble_eq_true rfl) ?_
  intro p e s m args below meth c h hr hk hname
  refine g_lvs (lv' := [(0, _), (1, _)]) rfl ?_
  refine g_aload_n h 0 dJx4a65c_elementData_915e3_0 rfl rfl ?_
  refine g_get (C := RJx4a65c) (T := TJx4a65c) (N := 3) h 1 (wat_L E _ (by omega)) rfl in_Jx4a65c_elementData_915e3_Jx4a65c (by decide) lk_Jx4a65c_elementData_915e3_9 rfl rfl dJx4a65c_elementData_915e3_1 ?_
  refine g_eqv (show Value.ref (((x).LD j).getD E.z) = .ref b from by rw [hD]; rfl) ?_
  refine g_iload_n h 1 dJx4a65c_elementData_915e3_4 rfl rfl ?_
  refine g_qald (t0 := 4) h (wat_B E _ hb hkb) rfl (by omega) (by omega) hv dJx4a65c_elementData_915e3_5 ?_
  exact g_aret h hr hk (Or.inl ⟨_, rfl⟩) (Or.inr ⟨_, rfl⟩) dJx4a65c_elementData_915e3_6 (Nat.zero_le _) (Nat.zero_le _) ⟨rfl, rfl⟩
set_option maxRecDepth 100000 in
set_option maxHeartbeats 400000 in
theorem c_J3_checkIndex_8e157 (l : Launch) (E : gE) (x : St) (k : Nat) (n : Nat) (hkn : k < n) (hn : n < 2 ^ 31) : Ct l yJ3_checkIndex_8e157 wsJ3_checkIndex_8e157 { frames := 0, cells := 0, slots := 0, locals := 0 } E [.int (nI k), .int (nI n), .null] x (fun v y => v = some (.int (nI (k))) ∧ y = x) 0 0 := by
  refine Ct.of (cc := cJ3_checkIndex_8e157) (nL := 3) (ret := (some .int)) (by decide) rfl (Nat.le_of_ble_eq_true rfl) ?_
  intro p e s m args below meth c h hr hk hname
  refine g_lvs (lv' := [(0, _), (1, _), (2, _)]) rfl ?_
  refine g_iload_n h 0 dJ3_checkIndex_8e157_0 rfl rfl ?_
  refine g_if_lt h 9 dJ3_checkIndex_8e157_1 (by decide) (fun c_1 => absurd c_1 (nI_pos (by omega))) (fun c_1 => ?_)
  refine g_iload_n h 0 dJ3_checkIndex_8e157_4 rfl rfl ?_
  refine g_iload_n h 1 dJ3_checkIndex_8e157_5 rfl rfl ?_
  refine g_icmp_ltN h 16 dJ3_checkIndex_8e157_6 (by decide) (by omega) (by omega) (fun c_6 => ?_) (fun c_6 => absurd c_6 (by omega))
  refine g_iload_n h 0 dJ3_checkIndex_8e157_16 rfl rfl ?_
  exact g_iret h hr hk dJ3_checkIndex_8e157_17 (Nat.zero_le _) (Nat.zero_le _) ⟨rfl, rfl⟩
set_option maxRecDepth 100000 in
set_option maxHeartbeats 400000 in
theorem c_J15_checkIndex_7cf53 (l : Launch) (E : gE) (x : St) (k : Nat) (n : Nat) (hkn : k < n) (hn : n < 2 ^ 31) : Ct l yJ15_checkIndex_7cf53 wsJ15_checkIndex_7cf53 { frames := 1, cells := 0, slots := 0, locals := 22 } E [.int (nI k), .int (nI n)] x (fun v y => v = some (.int (nI (k))) ∧ y = x) 0 0 := by
  refine Ct.of (cc := cJ15_checkIndex_7cf53) (nL := 2) (ret := (some .int)) (by decide) rfl (Nat.le_of_ble_eq_true rfl) ?_
  intro p e s m args below meth c h hr hk hname
  refine g_lvs (lv' := [(0, _), (1, _)]) rfl ?_
  refine g_iload_n h 0 dJ15_checkIndex_7cf53_0 rfl rfl ?_
  refine g_iload_n h 1 dJ15_checkIndex_7cf53_1 rfl rfl ?_
  refine g_aconst_null h dJ15_checkIndex_7cf53_2 ?_
  refine g_callS (As := [.int (nI k), .int (nI n), .null]) h 3 (c_J3_checkIndex_8e157 l E _ k n (by omega) (by omega)) rfl gJ15_checkIndex_7cf53_J3_checkIndex_8e157 rfl rfl rfl rfl (by decide +kernel) ⟨Nat.le_of_ble_eq_true rfl, Nat.le_of_ble_eq_true rfl⟩ dJ15_checkIndex_7cf53_3 ⟨Nat.le_refl _, Nat.le_refl _⟩ (Nat.le_of_ble_eq_true rfl) ?_
  rintro _ _ ⟨rfl, hy⟩
  obtain rfl := hy.symm
  dsimp only [Option.toList, List.cons_append, List.nil_append]
  exact g_iret h hr hk dJ15_checkIndex_7cf53_6 (Nat.zero_le _) (Nat.zero_le _) ⟨rfl, rfl⟩
theorem in_Jx4a65c_get_915e3_Jx4a65c : ∀ w ∈ wsJx4a65c0, w ∈ wsJx4a65c_get_915e3 := by decide +kernel
theorem lk_Jx4a65c_get_915e3_48 : Cond.fieldLink RJx4a65c 48 "java/util/ArrayList" "size" "I" ∈ wsJx4a65c_get_915e3 := by decide +kernel
set_option maxRecDepth 100000 in
set_option maxHeartbeats 400000 in
theorem c_Jx4a65c_get_915e3 (l : Launch) (E : gE) (x : St) (j : Nat) (k : Nat) (b : Nat) (q : Nat) (n : Nat) (hj : j < 17) (hD : x.LD j = some b) (hb : b ∈ x.PL) (hkb : x.PK b = false) (hn : x.BN b ≤ 96) (hsz : x.FL j 2 = nI n) (hnb : n ≤ x.BN b) (hkn : k < n) (hv : x.BR b k = some q) : Ct l yJx4a65c_get_915e3 wsJx4a65c_get_915e3 { frames := 2, cells := 0, slots := 0, locals := 43 } E [.ref (aL E j), .int (nI k)] x (fun u y => u = some (.ref q) ∧ y = x) 0 0 := by
  refine Ct.of (cc := cJx4a65c_get_915e3) (nL := 2) (ret := (some (.object "java/lang/Object"))) (by decide) rfl (Nat.le_of_ble_eq_true rfl) ?_
  intro p e s m args below meth c h hr hk hname
  refine g_lvs (lv' := [(0, _), (1, _)]) rfl ?_
  refine g_iload_n h 1 dJx4a65c_get_915e3_0 rfl rfl ?_
  refine g_aload_n h 0 dJx4a65c_get_915e3_1 rfl rfl ?_
  refine g_get (C := RJx4a65c) (T := TJx4a65c) (N := 3) h 2 (wat_L E _ (by omega)) rfl in_Jx4a65c_get_915e3_Jx4a65c (by decide) lk_Jx4a65c_get_915e3_48 rfl rfl dJx4a65c_get_915e3_2 ?_
  refine g_eqi (hsz) ?_
  refine g_callS (As := [.int (nI k), .int (nI n)]) h 2 (c_J15_checkIndex_7cf53 l E _ k n (by omega) (by omega)) rfl gJx4a65c_get_915e3_J15_checkIndex_7cf53 rfl rfl rfl rfl (by decide +kernel) ⟨Nat.le_of_ble_eq_true rfl, Nat.le_of_ble_eq_true rfl⟩ dJx4a65c_get_915e3_5 ⟨Nat.le_refl _, Nat.le_refl _⟩ (Nat.le_of_ble_eq_true rfl) ?_
  rintro _ _ ⟨rfl, hy⟩
  obtain rfl := hy.symm
  dsimp only [Option.toList, List.cons_append, List.nil_append]
  refine g_pop h dJx4a65c_get_915e3_8 rfl ?_
  refine g_aload_n h 0 dJx4a65c_get_915e3_9 rfl rfl ?_
  refine g_iload_n h 1 dJx4a65c_get_915e3_10 rfl rfl ?_
  refine g_callV (As := [.int (nI k)]) (C := RJx4a65c) h 1 (c_Jx4a65c_elementData_915e3 l E _ j k b q hj hD hb hkb hn (by omega) hv) rfl gJx4a65c_get_915e3_Jx4a65c_elementData_915e3 rfl rfl rfl rfl (by decide +kernel) ⟨Nat.le_of_ble_eq_true rfl, Nat.le_of_ble_eq_true rfl⟩ (wat_L E _ (by omega)) rfl rfl dJx4a65c_get_915e3_11 ⟨Nat.le_refl _, Nat.le_refl _⟩ (Nat.le_of_ble_eq_true rfl) ?_
  rintro _ _ ⟨rfl, hy⟩
  obtain rfl := hy.symm
  dsimp only [Option.toList, List.cons_append, List.nil_append]
  exact g_aret h hr hk (Or.inl ⟨_, rfl⟩) (Or.inr ⟨_, rfl⟩) dJx4a65c_get_915e3_14 (Nat.zero_le _) (Nat.zero_le _) ⟨rfl, rfl⟩
