/-- the view without the message at place k of the way -/
def rmv (v : Vw) (k : Nat) : Vw := vq v 16 ((v.q 16).eraseIdx k)
/-- a message names a line, and a cache or the directory -/
def MI (m : M7) : Prop := (m 1 = nI (nat (m 1)) ∧ nat (m 1) < 16) ∧ (m 3 = -1 ∨ (m 3 = nI (nat (m 3)) ∧ nat (m 3) < 4))
/-- what the class's methods need of a view -/
def CI (v : Vw) : Prop := (∀ i, i < 4 → v.x.FC i 7 = nI (nat (v.x.FC i 7)) ∧ nat (v.x.FC i 7) ≤ 4) ∧ (∀ i k, i < 4 → k < 4 → v.x.AC i 3 k = nI (nat (v.x.AC i 3 k)) ∧ nat (v.x.AC i 3 k) < 16) ∧ (∀ m ∈ v.q 16, MI m) ∧ ∀ j, j < 16 → (v.q 16).length + (v.q j).length ≤ 59
def s_handOver (v : Vw) (k : Nat) : Vw :=
  if mat v 16 k 3 = -1 then s_X1_receive (rmv v k) (nat (mat v 16 k 1)) (mat v 16 k) else s_X0_receive (rmv v k) (nat (mat v 16 k 3)) (nat (mat v 16 k 1)) (mat v 16 k)
def uH (v : Vw) (k : Nat) : Nat := if mat v 16 k 3 = -1 then uR (rmv v k) (nat (mat v 16 k 1)) (mat v 16 k) else 1
theorem len_rmv {v : Vw} {k : Nat} (h : k < (v.q 16).length) : ((rmv v k).q 16).length + 1 = (v.q 16).length ∧ ∀ j, j ≠ 16 → (rmv v k).q j = v.q j := by
  unfold rmv
  refine ⟨?_, fun j hj => by rw [vq_q, va_up_ne _ _ hj]⟩
  rw [vq_q, va_up_self, List.length_eraseIdx_of_lt h]
  omega
theorem nneg {w : Int32} {i : Nat} (hi : i < 4) (h : w = nI i) : ¬ w = -1 := by
  intro e
  rw [h] at e
  have h2 := nI_pos (n := i) (by omega)
  rw [e] at h2
  exact h2 (by decide)
theorem mat_mem {v : Vw} {j k : Nat} (h : k < (v.q j).length) : mat v j k ∈ v.q j := by
  unfold mat
  rw [List.getElem?_eq_getElem h]
  exact List.getElem_mem h
theorem in_X5_handOver_X2 : ∀ w ∈ wsX20, w ∈ wsX5_handOver := by decide +kernel
theorem in_X5_handOver_X3 : ∀ w ∈ wsX30, w ∈ wsX5_handOver := by decide +kernel
theorem in_X5_handOver_X5 : ∀ w ∈ wsX50, w ∈ wsX5_handOver := by decide +kernel
theorem lk_X5_handOver_10 : Cond.fieldLink RX5 10 "CacheDirectory" "network" "LCacheDirectory$Network;" ∈ wsX5_handOver := by decide +kernel
theorem lk_X5_handOver_162 : Cond.fieldLink RX5 162 "CacheDirectory$Network" "onTheWay" "Ljava/util/ArrayList;" ∈ wsX5_handOver := by decide +kernel
theorem lk_X5_handOver_178 : Cond.fieldLink RX5 178 "CacheDirectory$Message" "receiver" "I" ∈ wsX5_handOver := by decide +kernel
theorem lk_X5_handOver_174 : Cond.fieldLink RX5 174 "CacheDirectory$Message" "line" "I" ∈ wsX5_handOver := by decide +kernel
set_option maxRecDepth 100000 in
set_option maxHeartbeats 400000 in
theorem c_X5_handOver_d (l : Launch) (E : gE) (x : St)  (v : Vw) (hV : VW x v [] []) (k : Nat) (j : Nat) (hkl : k < (v.q 16).length) (hl : mat v 16 k 1 = nI j) (hj : j < 16) (hrc : mat v 16 k 3 = -1) (hQ : (v.q 16).length + (v.q j).length ≤ 59) : Ct l yX5_handOver wsX5_handOver { frames := 12, cells := 2 * uR (rmv v k) j (mat v 16 k), slots := 103 * uR (rmv v k) j (mat v 16 k), locals := 331 } E [.ref (aD E), .int (nI k)] x (fun u y => u = none ∧ VW y (s_X1_receive (rmv v k) j (mat v 16 k)) [] []) (2 * uR (rmv v k) j (mat v 16 k)) (103 * uR (rmv v k) j (mat v 16 k)) := by
  refine Ct.of (cc := cX5_handOver) (nL := 3) (ret := none) (by decide) rfl (Nat.le_of_ble_eq_true rfl) ?_
  intro p e s m args below meth c h hr hk hname
  refine g_lvs (lv' := [(0, _), (1, _)]) rfl ?_
  refine g_aload_n h 0 dX5_handOver_0 rfl rfl ?_
  refine g_iload_n h 1 dX5_handOver_1 rfl rfl ?_
  refine g_callV (As := [.int (nI k)]) (C := RX5) h 1 (c_X5_messageAt l E _ _ _ hV k hkl) rfl gX5_handOver_X5_messageAt rfl rfl rfl rfl (by decide +kernel) ⟨Nat.le_of_ble_eq_true rfl, Nat.le_of_ble_eq_true rfl⟩ (wat_D E _) rfl rfl dX5_handOver_2 ⟨by dsimp only; omega, by dsimp only; omega⟩ (Nat.le_of_ble_eq_true rfl) ?_
  rintro _ _ ⟨a9, rfl, hy, hm1, hm2, hm3, hm4⟩
  obtain rfl := hy.symm
  dsimp only [Option.toList, List.cons_append, List.nil_append]
  refine g_astore_n (lv' := [(0, _), (1, _), (2, _)]) h [1, 2, 0] dX5_handOver_5 rfl (by decide) rfl ?_
  refine g_aload_n h 0 dX5_handOver_6 rfl rfl ?_
  refine g_get (C := RX5) (T := TX5) (N := 3) h 0 (wat_D E _) rfl in_X5_handOver_X5 (by decide) lk_X5_handOver_10 rfl rfl dX5_handOver_7 ?_
  refine g_get (C := RX3) (T := TX3) (N := 1) h 0 (wat_N E _) rfl in_X5_handOver_X3 (by decide) lk_X5_handOver_162 rfl rfl dX5_handOver_10 ?_
  refine g_iload_n h 1 dX5_handOver_13 rfl rfl ?_
  refine g_callV (As := [.int (nI k)]) (C := RJx4a65c) h 1 (c_rem l E _ _ [] 16 k (by omega) hV hkl) rfl gX5_handOver_Jx4a65c_remove_915e3 rfl rfl rfl rfl (by decide +kernel) ⟨Nat.le_of_ble_eq_true rfl, Nat.le_of_ble_eq_true rfl⟩ (wat_L E _ (by omega)) rfl rfl dX5_handOver_14 ⟨by dsimp only; omega, by dsimp only; omega⟩ (Nat.le_of_ble_eq_true rfl) ?_
  rintro _ y ⟨a2, rfl, hV2, hat⟩
  have e9 := hm4.one hat
  rw [← e9] at hV2
  rw [← e9]
  have hV : VW y (rmv v k) [] [(a9, mat v 16 k)] := hV2
  obtain ⟨f1, f2⟩ := len_rmv hkl
  dsimp only [Option.toList, List.cons_append, List.nil_append]
  refine g_pop h dX5_handOver_17 rfl ?_
  refine g_aload_n h 2 dX5_handOver_18 rfl rfl ?_
  refine g_get (C := RX2) (T := TX2) (N := 7) h 3 (wat_Ms E _ (hV.held (List.mem_cons_self ..)).1 (hV.held (List.mem_cons_self ..)).2.1) rfl in_X5_handOver_X2 (by decide) lk_X5_handOver_178 rfl rfl dX5_handOver_19 ?_
  refine g_eqi ((hV.held (List.mem_cons_self ..)).2.2 _) ?_
  refine g_iconst (v := -1) h dX5_handOver_22 (by decide) ?_
  refine g_icmp_ne h 41 dX5_handOver_23 (by decide) (fun c_23 => absurd c_23 (fun q => q hrc)) (fun c_23 => ?_)
  refine g_aload_n h 0 dX5_handOver_26 rfl rfl ?_
  refine g_aload_n h 2 dX5_handOver_27 rfl rfl ?_
  refine g_get (C := RX2) (T := TX2) (N := 7) h 1 (wat_Ms E _ (hV.held (List.mem_cons_self ..)).1 (hV.held (List.mem_cons_self ..)).2.1) rfl in_X5_handOver_X2 (by decide) lk_X5_handOver_174 rfl rfl dX5_handOver_28 ?_
  refine g_eqi ((hV.held (List.mem_cons_self ..)).2.2 _) ?_
  refine g_eqi (hl) ?_
  refine g_callV (As := [.int (nI j)]) (C := RX5) h 1 (c_X5_homeOf l E _ j (by omega)) rfl gX5_handOver_X5_homeOf rfl rfl rfl rfl (by decide +kernel) ⟨Nat.le_of_ble_eq_true rfl, Nat.le_of_ble_eq_true rfl⟩ (wat_D E _) rfl rfl dX5_handOver_31 ⟨by dsimp only; omega, by dsimp only; omega⟩ (Nat.le_of_ble_eq_true rfl) ?_
  rintro _ _ ⟨rfl, hy⟩
  obtain rfl := hy.symm
  dsimp only [Option.toList, List.cons_append, List.nil_append]
  refine g_aload_n h 2 dX5_handOver_34 rfl rfl ?_
  refine g_callV (As := [.ref a9]) (C := RX1) h 1 (c_X1_receive l E _ _ j a9 (mat v 16 k) hV hj (by rw [f2 j (by omega)]; omega)) rfl gX5_handOver_X1_receive rfl rfl rfl rfl (by decide +kernel) ⟨Nat.le_of_ble_eq_true rfl, Nat.le_of_ble_eq_true rfl⟩ (wat_H E _ (by omega)) rfl rfl dX5_handOver_35 ⟨by dsimp only; omega, by dsimp only; omega⟩ (Nat.le_of_ble_eq_true rfl) ?_
  rintro _ y ⟨rfl, hV⟩
  dsimp only [Option.toList, List.cons_append, List.nil_append]
  refine g_goto h 53 dX5_handOver_38 (by decide) ?_
  exact g_vret h hr hk dX5_handOver_53 (by omega) (by omega) ⟨rfl, hV⟩
set_option maxRecDepth 100000 in
set_option maxHeartbeats 400000 in
theorem c_X5_handOver_c (l : Launch) (E : gE) (x : St)  (v : Vw) (hV : VW x v [] []) (k : Nat) (i j : Nat) (hkl : k < (v.q 16).length) (hl : mat v 16 k 1 = nI j) (hj : j < 16) (hrc : mat v 16 k 3 = nI i) (hi : i < 4) (hQ : (v.q 16).length ≤ 59) (hc : (rmv v k).x.FC i 7 = nI (nat ((rmv v k).x.FC i 7)) ∧ nat ((rmv v k).x.FC i 7) ≤ 4) : Ct l yX5_handOver wsX5_handOver { frames := 12, cells := 2, slots := 103, locals := 331 } E [.ref (aD E), .int (nI k)] x (fun u y => u = none ∧ VW y (s_X0_receive (rmv v k) i j (mat v 16 k)) [] []) 2 103 := by
  refine Ct.of (cc := cX5_handOver) (nL := 3) (ret := none) (by decide) rfl (Nat.le_of_ble_eq_true rfl) ?_
  intro p e s m args below meth c h hr hk hname
  refine g_lvs (lv' := [(0, _), (1, _)]) rfl ?_
  refine g_aload_n h 0 dX5_handOver_0 rfl rfl ?_
  refine g_iload_n h 1 dX5_handOver_1 rfl rfl ?_
  refine g_callV (As := [.int (nI k)]) (C := RX5) h 1 (c_X5_messageAt l E _ _ _ hV k hkl) rfl gX5_handOver_X5_messageAt rfl rfl rfl rfl (by decide +kernel) ⟨Nat.le_of_ble_eq_true rfl, Nat.le_of_ble_eq_true rfl⟩ (wat_D E _) rfl rfl dX5_handOver_2 ⟨by dsimp only; omega, by dsimp only; omega⟩ (Nat.le_of_ble_eq_true rfl) ?_
  rintro _ _ ⟨a9, rfl, hy, hm1, hm2, hm3, hm4⟩
  obtain rfl := hy.symm
  dsimp only [Option.toList, List.cons_append, List.nil_append]
  refine g_astore_n (lv' := [(0, _), (1, _), (2, _)]) h [1, 2, 0] dX5_handOver_5 rfl (by decide) rfl ?_
  refine g_aload_n h 0 dX5_handOver_6 rfl rfl ?_
  refine g_get (C := RX5) (T := TX5) (N := 3) h 0 (wat_D E _) rfl in_X5_handOver_X5 (by decide) lk_X5_handOver_10 rfl rfl dX5_handOver_7 ?_
  refine g_get (C := RX3) (T := TX3) (N := 1) h 0 (wat_N E _) rfl in_X5_handOver_X3 (by decide) lk_X5_handOver_162 rfl rfl dX5_handOver_10 ?_
  refine g_iload_n h 1 dX5_handOver_13 rfl rfl ?_
  refine g_callV (As := [.int (nI k)]) (C := RJx4a65c) h 1 (c_rem l E _ _ [] 16 k (by omega) hV hkl) rfl gX5_handOver_Jx4a65c_remove_915e3 rfl rfl rfl rfl (by decide +kernel) ⟨Nat.le_of_ble_eq_true rfl, Nat.le_of_ble_eq_true rfl⟩ (wat_L E _ (by omega)) rfl rfl dX5_handOver_14 ⟨by dsimp only; omega, by dsimp only; omega⟩ (Nat.le_of_ble_eq_true rfl) ?_
  rintro _ y ⟨a2, rfl, hV2, hat⟩
  have e9 := hm4.one hat
  rw [← e9] at hV2
  rw [← e9]
  have hV : VW y (rmv v k) [] [(a9, mat v 16 k)] := hV2
  obtain ⟨f1, f2⟩ := len_rmv hkl
  dsimp only [Option.toList, List.cons_append, List.nil_append]
  refine g_pop h dX5_handOver_17 rfl ?_
  refine g_aload_n h 2 dX5_handOver_18 rfl rfl ?_
  refine g_get (C := RX2) (T := TX2) (N := 7) h 3 (wat_Ms E _ (hV.held (List.mem_cons_self ..)).1 (hV.held (List.mem_cons_self ..)).2.1) rfl in_X5_handOver_X2 (by decide) lk_X5_handOver_178 rfl rfl dX5_handOver_19 ?_
  refine g_eqi ((hV.held (List.mem_cons_self ..)).2.2 _) ?_
  refine g_iconst (v := -1) h dX5_handOver_22 (by decide) ?_
  refine g_icmp_ne h 41 dX5_handOver_23 (by decide) (fun c_23 => ?_) (fun c_23 => absurd c_23 (nneg hi hrc))
  refine g_aload_n h 0 dX5_handOver_41 rfl rfl ?_
  refine g_aload_n h 2 dX5_handOver_42 rfl rfl ?_
  refine g_get (C := RX2) (T := TX2) (N := 7) h 3 (wat_Ms E _ (hV.held (List.mem_cons_self ..)).1 (hV.held (List.mem_cons_self ..)).2.1) rfl in_X5_handOver_X2 (by decide) lk_X5_handOver_178 rfl rfl dX5_handOver_43 ?_
  refine g_eqi ((hV.held (List.mem_cons_self ..)).2.2 _) ?_
  refine g_eqi (hrc) ?_
  refine g_callV (As := [.int (nI i)]) (C := RX5) h 1 (c_X5_cacheAt l E _ i (by omega)) rfl gX5_handOver_X5_cacheAt rfl rfl rfl rfl (by decide +kernel) ⟨Nat.le_of_ble_eq_true rfl, Nat.le_of_ble_eq_true rfl⟩ (wat_D E _) rfl rfl dX5_handOver_46 ⟨by dsimp only; omega, by dsimp only; omega⟩ (Nat.le_of_ble_eq_true rfl) ?_
  rintro _ _ ⟨rfl, hy⟩
  obtain rfl := hy.symm
  dsimp only [Option.toList, List.cons_append, List.nil_append]
  refine g_aload_n h 2 dX5_handOver_49 rfl rfl ?_
  refine g_callV (As := [.ref a9]) (C := RX0) h 1 (c_X0_receive l E _ _ _ hV i j a9 (mat v 16 k) hi hj hc (by omega) (List.mem_cons_self ..) hl) rfl gX5_handOver_X0_receive rfl rfl rfl rfl (by decide +kernel) ⟨Nat.le_of_ble_eq_true rfl, Nat.le_of_ble_eq_true rfl⟩ (wat_C E _ (by omega)) rfl rfl dX5_handOver_50 ⟨by dsimp only; omega, by dsimp only; omega⟩ (Nat.le_of_ble_eq_true rfl) ?_
  rintro _ y ⟨rfl, hV⟩
  dsimp only [Option.toList, List.cons_append, List.nil_append]
  exact g_vret h hr hk dX5_handOver_53 (by omega) (by omega) ⟨rfl, hV.less⟩
theorem c_handOver (l : Launch) (E : gE) (x : St) (v : Vw) (hV : VW x v [] []) (k : Nat) (hkl : k < (v.q 16).length) (hC : CI v) : Ct l yX5_handOver wsX5_handOver { frames := 12, cells := 2 * uH v k, slots := 103 * uH v k, locals := 331 } E [.ref (aD E), .int (nI k)] x (fun u y => u = none ∧ VW y (s_handOver v k) [] []) (2 * uH v k) (103 * uH v k) := by
  obtain ⟨h1, h2, h3, h4⟩ := hC
  obtain ⟨⟨m1, m2⟩, m3⟩ := h3 _ (mat_mem hkl)
  by_cases hd : mat v 16 k 3 = -1
  · rw [show uH v k = uR (rmv v k) (nat (mat v 16 k 1)) (mat v 16 k) from if_pos hd, show s_handOver v k = s_X1_receive (rmv v k) (nat (mat v 16 k 1)) (mat v 16 k) from if_pos hd]
    exact c_X5_handOver_d l E x v hV k _ hkl m1 m2 hd (h4 _ m2)
  · rw [show uH v k = 1 from if_neg hd, show s_handOver v k = s_X0_receive (rmv v k) (nat (mat v 16 k 3)) (nat (mat v 16 k 1)) (mat v 16 k) from if_neg hd]
    obtain ⟨m4, m5⟩ := m3.resolve_left hd
    exact c_X5_handOver_c l E x v hV k _ _ hkl m1 m2 m4 m5 (Nat.le_trans (Nat.le_add_right _ _) (h4 0 (by decide))) (h1 _ m5)
def sN : Nat → Vw → Vw
  | 0, v => v
  | n + 1, v => if (v.q 16).length = 0 then v else sN n (s_handOver v 0)
def cN : Nat → Vw → Nat
  | 0, _ => 0
  | n + 1, v => if (v.q 16).length = 0 then 0 else 1 + cN n (s_handOver v 0)
def uN : Nat → Vw → Nat
  | 0, _ => 0
  | n + 1, v => if (v.q 16).length = 0 then 0 else uH v 0 + uN n (s_handOver v 0)
theorem in_X5_deliver_X3 : ∀ w ∈ wsX30, w ∈ wsX5_deliver := by decide +kernel
theorem in_X5_deliver_X5 : ∀ w ∈ wsX50, w ∈ wsX5_deliver := by decide +kernel
theorem lk_X5_deliver_10 : Cond.fieldLink RX5 10 "CacheDirectory" "network" "LCacheDirectory$Network;" ∈ wsX5_deliver := by decide +kernel
theorem lk_X5_deliver_162 : Cond.fieldLink RX5 162 "CacheDirectory$Network" "onTheWay" "Ljava/util/ArrayList;" ∈ wsX5_deliver := by decide +kernel
set_option maxRecDepth 100000 in
set_option maxHeartbeats 400000 in
theorem c_X5_deliver (l : Launch) (E : gE) (x : St)  (v : Vw) (hV : VW x v [] []) (k : Nat) (hkl : k < (v.q 16).length) (hC : CI v) : Ct l yX5_deliver wsX5_deliver { frames := 13, cells := 2 * uH v k, slots := 103 * uH v k, locals := 353 } E [.ref (aD E), .int (nI k)] x (fun u y => u = some (.int (nI ((s_handOver v k).q 16).length)) ∧ VW y (s_handOver v k) [] []) (2 * uH v k) (103 * uH v k) := by
  refine Ct.of (cc := cX5_deliver) (nL := 2) (ret := (some .int)) (by decide) rfl (Nat.le_of_ble_eq_true rfl) ?_
  intro p e s m args below meth c h hr hk hname
  refine g_lvs (lv' := [(0, _), (1, _)]) rfl ?_
  refine g_aload_n h 0 dX5_deliver_0 rfl rfl ?_
  refine g_iload_n h 1 dX5_deliver_1 rfl rfl ?_
  refine g_callV (As := [.int (nI k)]) (C := RX5) h 1 (c_handOver l E _ _ hV k hkl hC) rfl gX5_deliver_X5_handOver rfl rfl rfl rfl (by decide +kernel) ⟨Nat.le_of_ble_eq_true rfl, Nat.le_of_ble_eq_true rfl⟩ (wat_D E _) rfl rfl dX5_deliver_2 ⟨by dsimp only; omega, by dsimp only; omega⟩ (Nat.le_of_ble_eq_true rfl) ?_
  rintro _ y ⟨rfl, hV⟩
  dsimp only [Option.toList, List.cons_append, List.nil_append]
  refine g_aload_n h 0 dX5_deliver_5 rfl rfl ?_
  refine g_get (C := RX5) (T := TX5) (N := 3) h 0 (wat_D E _) rfl in_X5_deliver_X5 (by decide) lk_X5_deliver_10 rfl rfl dX5_deliver_6 ?_
  refine g_get (C := RX3) (T := TX3) (N := 1) h 0 (wat_N E _) rfl in_X5_deliver_X3 (by decide) lk_X5_deliver_162 rfl rfl dX5_deliver_9 ?_
  refine g_callV (As := []) (C := RJx4a65c) h 0 (c_Jx4a65c_size_8abf5 l E _ 16 (by omega)) rfl gX5_deliver_Jx4a65c_size_8abf5 rfl rfl rfl rfl (by decide +kernel) ⟨Nat.le_of_ble_eq_true rfl, Nat.le_of_ble_eq_true rfl⟩ (wat_L E _ (by omega)) rfl rfl dX5_deliver_12 ⟨by dsimp only; omega, by dsimp only; omega⟩ (Nat.le_of_ble_eq_true rfl) ?_
  rintro _ _ ⟨rfl, hy⟩
  obtain rfl := hy.symm
  have s1 := hV.size (j := 16) (by omega)
  dsimp only [Option.toList, List.cons_append, List.nil_append]
  refine g_eqi s1.1 ?_
  exact g_iret h hr hk dX5_deliver_15 (by omega) (by omega) ⟨rfl, hV⟩
