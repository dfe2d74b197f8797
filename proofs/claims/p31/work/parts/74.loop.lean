/-! ===== the law's loops ===== -/
/-- setRoom leaves what says whether another cache is in use -/
theorem room_use {v : Vw} {i k w b : Nat} (hk : k ≠ i) : r_X0_isInUse (s_X5_setRoom v i w b) k = r_X0_isInUse v k := by
  have cS : s_X5_setRoom v i w b = vFC (vFC v i 9 (nI w)) i 10 (nI b) := by
    unfold s_X5_setRoom
    split
    · split <;> rfl
    · rfl
  have e : ∀ n, (vFC (vFC v i 9 (nI w)) i 10 (nI b)).x.FC k n = v.x.FC k n := fun n => by
    show u2 (u2 v.x.FC i 9 (nI w)) i 10 (nI b) k n = _
    unfold u2 va_up
    simp [hk]
  rw [cS]
  unfold r_X0_isInUse
  rw [e, e]
  rfl
section LAW
variable {p : Program} {l : Launch} {e : Env} {s : State} {m : MethodId} {below : List Frame} {meth : Method} {c : Code} {Q : State → Prop} {E : gE} {S0 x : St} {b L cs sl t : Nat} {xs : Nat → Int32} {v : Vw} {A : St} {N : Nat → Int}
set_option maxRecDepth 100000 in
set_option maxHeartbeats 1000000 in
theorem law_loop (hlt : l.stackTraces = false) (h : gO p s m #[.ref b] c cL_law 14 RL wsL_law E S0) (hX : va_X b L xs s s.heap) (hbl : b < s.heap.size) (hbA : ¬ gA E S0 s b) (hLb : L < 2 ^ 31) (hend : ∀ (y : St) (cs sl : Nat) (lv : List (Nat × Value)), cs ≤ 879821 → sl ≤ 6462004 → G p l e RM0 s m #[.ref b] below meth c Q E S0 14 cs sl y 519 lv [.int (nI 1)]) : ∀ (n t : Nat) (x : St) (v : Vw) (A : St) (N : Nat → Int) (cs sl : Nat), t + n = 56 → k_LS x v A N → LW0 v A N → cs ≤ 1000 + 600 * t → sl ≤ 20000 + 31000 * t → G p l e RM0 s m #[.ref b] below meth c Q E S0 14 cs sl x 91 [(0, .ref b), (1, .ref (aD E)), (2, .ref (aY E 0)), (3, .ref (aY E 1)), (4, .ref (aY E 2)), (5, .ref (aY E 3)), (6, .int (nI t))] [] := by
  intro n
  induction n with
  | zero =>
    intro t x v A N cs sl ht hS hL hc hsl
    refine g_iload h 6 dL_law_91 rfl ?_
    refine g_bipush (v := nI 56) h dL_law_93 (by decide +kernel) ?_
    refine g_icmp_geN h 518 dL_law_95 (by decide) (by omega) (by omega) (fun _ => ?_) (fun z => absurd (by omega) z)
    refine g_iconst (v := nI 1) h dL_law_518 (by decide) ?_
    exact hend x cs sl _ (by omega) (by omega)
  | succ n ih =>
    intro t x v A N cs sl ht hS hL hc hsl
    refine g_iload h 6 dL_law_91 rfl ?_
    refine g_bipush (v := nI 56) h dL_law_93 (by decide +kernel) ?_
    refine g_icmp_geN h 518 dL_law_95 (by decide) (by omega) (by omega) (fun z => absurd z (by omega)) (fun _ => ?_)
    refine g_aload_n h 0 dL_law_98 rfl rfl ?_
    refine g_iconst (v := nI 4) h dL_law_99 (by decide) ?_
    refine g_iload h 6 dL_law_100 rfl ?_
    refine g_bipush (v := nI 28) h dL_law_102 (by decide +kernel) ?_
    refine g_irem h dL_law_104 (by omega) (by decide) (by decide) ?_
    refine g_iaddN h dL_law_105 ?_
    refine g_callSS (As := [.ref b, .int (nI (4 + t % 28))]) h hX hbl hbA 2 (c_cell l E _ b L xs hLb (4 + t % 28) (by omega)) rfl gL_law_L_cell rfl rfl rfl rfl (by decide +kernel) ⟨Nat.le_of_ble_eq_true rfl, Nat.le_of_ble_eq_true rfl⟩ dL_law_106 ⟨by show _ + 0 ≤ 879821; omega, by show _ + 0 ≤ 6462004; omega⟩ (Nat.le_of_ble_eq_true rfl) ?_
    rintro _ _ ⟨⟨a1, rfl⟩, hy⟩
    obtain rfl := hy.symm
    dsimp only [Option.toList, List.cons_append, List.nil_append]
    refine g_iload h 6 dL_law_109 rfl ?_
    refine g_bipush (v := nI 28) h dL_law_111 (by decide +kernel) ?_
    refine g_idiv h dL_law_113 (by omega) (by decide) (by decide) ?_
    refine g_sipush (v := nI 7919) h dL_law_114 (by decide +kernel) ?_
    refine g_imul h dL_law_117 ?_
    refine g_iadd h dL_law_118 ?_
    refine g_nmi (fun xx _ => ?_)
    refine g_istore (lv' := [(0, _), (1, _), (2, _), (3, _), (4, _), (5, _), (6, _), (7, _)]) h [1, 2, 3, 4, 5, 6, 7, 0] dL_law_119 (by decide) rfl ?_
    refine g_iload h 7 dL_law_121 rfl ?_
    refine g_iconst (v := nI 4) h dL_law_123 (by decide) ?_
    refine g_callS (As := [.int _, .int (nI 4)]) h 2 (c_below l E _ _ 4 (by decide) (by decide)) rfl gL_law_L_below rfl rfl rfl rfl (by decide +kernel) ⟨Nat.le_of_ble_eq_true rfl, Nat.le_of_ble_eq_true rfl⟩ dL_law_124 ⟨by show _ + 0 ≤ 879821; omega, by show _ + 0 ≤ 6462004; omega⟩ (Nat.le_of_ble_eq_true rfl) ?_
    rintro _ _ ⟨⟨ca, hca, rfl⟩, hy⟩
    obtain rfl := hy.symm
    dsimp only [Option.toList, List.cons_append, List.nil_append]
    refine g_istore (lv' := [(0, _), (1, _), (2, _), (3, _), (4, _), (5, _), (6, _), (7, _), (8, _)]) h [1, 2, 3, 4, 5, 6, 7, 8, 0] dL_law_127 (by decide) rfl ?_
    refine g_iload h 7 dL_law_129 rfl ?_
    refine g_iconst (v := nI 2) h dL_law_131 (by decide) ?_
    refine g_ishr h dL_law_132 ?_
    refine g_iconst (v := nI 3) h dL_law_133 (by decide) ?_
    refine g_callS (As := [.int _, .int (nI 3)]) h 2 (c_below l E _ _ 3 (by decide) (by decide)) rfl gL_law_L_below rfl rfl rfl rfl (by decide +kernel) ⟨Nat.le_of_ble_eq_true rfl, Nat.le_of_ble_eq_true rfl⟩ dL_law_134 ⟨by show _ + 0 ≤ 879821; omega, by show _ + 0 ≤ 6462004; omega⟩ (Nat.le_of_ble_eq_true rfl) ?_
    rintro _ _ ⟨⟨li, hli, rfl⟩, hy⟩
    obtain rfl := hy.symm
    dsimp only [Option.toList, List.cons_append, List.nil_append]
    refine g_istore (lv' := [(0, _), (1, _), (2, _), (3, _), (4, _), (5, _), (6, _), (7, _), (8, _), (9, _)]) h [1, 2, 3, 4, 5, 6, 7, 8, 9, 0] dL_law_137 (by decide) rfl ?_
    refine g_iload h 7 dL_law_139 rfl ?_
    refine g_bipush (v := nI 9) h dL_law_141 (by decide +kernel) ?_
    refine g_ishr h dL_law_143 ?_
    refine g_sipush (v := nI 10000) h dL_law_144 (by decide +kernel) ?_
    refine g_callS (As := [.int _, .int (nI 10000)]) h 2 (c_below l E _ _ 10000 (by decide) (by decide)) rfl gL_law_L_below rfl rfl rfl rfl (by decide +kernel) ⟨Nat.le_of_ble_eq_true rfl, Nat.le_of_ble_eq_true rfl⟩ dL_law_147 ⟨by show _ + 0 ≤ 879821; omega, by show _ + 0 ≤ 6462004; omega⟩ (Nat.le_of_ble_eq_true rfl) ?_
    rintro _ _ ⟨⟨wv, hwv, rfl⟩, hy⟩
    obtain rfl := hy.symm
    dsimp only [Option.toList, List.cons_append, List.nil_append]
    refine g_istore (lv' := [(0, _), (1, _), (2, _), (3, _), (4, _), (5, _), (6, _), (7, _), (8, _), (9, _), (10, _)]) h [1, 2, 3, 4, 5, 6, 7, 8, 9, 10, 0] dL_law_150 (by decide) rfl ?_
    refine g_iload h 7 dL_law_152 rfl ?_
    refine g_iconst (v := nI 5) h dL_law_154 (by decide) ?_
    refine g_ishr h dL_law_155 ?_
    refine g_bipush (v := nI 9) h dL_law_156 (by decide +kernel) ?_
    refine g_callS (As := [.int _, .int (nI 9)]) h 2 (c_below l E _ _ 9 (by decide) (by decide)) rfl gL_law_L_below rfl rfl rfl rfl (by decide +kernel) ⟨Nat.le_of_ble_eq_true rfl, Nat.le_of_ble_eq_true rfl⟩ dL_law_158 ⟨by show _ + 0 ≤ 879821; omega, by show _ + 0 ≤ 6462004; omega⟩ (Nat.le_of_ble_eq_true rfl) ?_
    rintro _ _ ⟨⟨wh, hwh, rfl⟩, hy⟩
    obtain rfl := hy.symm
    dsimp only [Option.toList, List.cons_append, List.nil_append]
    refine g_istore (lv' := [(0, _), (1, _), (2, _), (3, _), (4, _), (5, _), (6, _), (7, _), (8, _), (9, _), (10, _), (11, _)]) h [1, 2, 3, 4, 5, 6, 7, 8, 9, 10, 11, 0] dL_law_161 (by decide) rfl ?_
    refine law_act h hlt hS hL (by show cs + 0 + 0 + 0 + 0 + 0 ≤ _; omega) (by show sl + 0 + 0 + 0 + 0 + 0 ≤ _; omega) hca hli hwv hwh (fun y w B M cs' sl' h1 h2 h3 h4 => ?_)
    refine law_check h h1 h2 (by omega) (by omega) (fun y w B h5 h6 => ?_)
    refine g_iinc (lv' := [(0, .ref b), (1, .ref (aD E)), (2, .ref (aY E 0)), (3, .ref (aY E 1)), (4, .ref (aY E 2)), (5, .ref (aY E 3)), (6, .int (nI (t + 1)))]) h 6 [1, 2, 3, 4, 5, 6, 0] dL_law_512 rfl (nI_add _ 1) (by decide) rfl ?_
    refine g_goto h 91 dL_law_515 (by decide) ?_
    exact ih (t + 1) y w B M _ _ (by omega) h5 h6 (by omega) (by omega)
set_option maxRecDepth 100000 in
set_option maxHeartbeats 1000000 in
theorem law_rooms (hlt : l.stackTraces = false) (h : gO p s m #[.ref b] c cL_law 14 RL wsL_law E S0) (hX : va_X b L xs s s.heap) (hbl : b < s.heap.size) (hbA : ¬ gA E S0 s b) (hLb : L < 2 ^ 31) (kk : ∀ (y : St) (w : Vw) (B : St), k_LS y w B N → LW0 w B N → G p l e RM0 s m #[.ref b] below meth c Q E S0 14 cs sl y 88 [(0, .ref b), (1, .ref (aD E)), (2, .ref (aY E 0)), (3, .ref (aY E 1)), (4, .ref (aY E 2)), (5, .ref (aY E 3)), (6, .int (nI 4))] []) (hc : cs ≤ 800000) (hsl : sl ≤ 6000000) : ∀ (n t : Nat) (x : St) (v : Vw) (A : St), t + n = 4 → k_LS x v A N → LW0 v A N → (∀ k : Nat, t ≤ k → k < 4 → nI (r_X0_isInUse v k) = 0) → G p l e RM0 s m #[.ref b] below meth c Q E S0 14 cs sl x 45 [(0, .ref b), (1, .ref (aD E)), (2, .ref (aY E 0)), (3, .ref (aY E 1)), (4, .ref (aY E 2)), (5, .ref (aY E 3)), (6, .int (nI t))] [] := by
  intro n
  induction n with
  | zero =>
    intro t x v A ht hS hL hu
    refine g_iload h 6 dL_law_45 rfl ?_
    refine g_iconst (v := nI 4) h dL_law_47 (by decide) ?_
    refine g_icmp_geN h 88 dL_law_48 (by decide) (by omega) (by omega) (fun _ => ?_) (fun z => absurd (by omega) z)
    obtain rfl : t = 4 := by omega
    exact kk x v A hS hL
  | succ n ih =>
    intro t x v A ht hS hL hu
    refine g_iload h 6 dL_law_45 rfl ?_
    refine g_iconst (v := nI 4) h dL_law_47 (by decide) ?_
    refine g_icmp_geN h 88 dL_law_48 (by decide) (by omega) (by omega) (fun z => absurd z (by omega)) (fun _ => ?_)
    refine g_aload_n h 1 dL_law_51 rfl rfl ?_
    refine g_iload h 6 dL_law_52 rfl ?_
    refine g_iconst (v := nI 1) h dL_law_54 (by decide) ?_
    refine g_aload_n h 0 dL_law_55 rfl rfl ?_
    refine g_iload h 6 dL_law_56 rfl ?_
    refine g_callSS (As := [.ref b, .int (nI t)]) h hX hbl hbA 2 (c_cell l E _ b L xs hLb t (by omega)) rfl gL_law_L_cell rfl rfl rfl rfl (by decide +kernel) ⟨Nat.le_of_ble_eq_true rfl, Nat.le_of_ble_eq_true rfl⟩ dL_law_58 ⟨by show _ + 0 ≤ 879821; omega, by show _ + 0 ≤ 6462004; omega⟩ (Nat.le_of_ble_eq_true rfl) ?_
    rintro _ _ ⟨⟨a1, rfl⟩, hy⟩
    obtain rfl := hy.symm
    dsimp only [Option.toList, List.cons_append, List.nil_append]
    refine g_iconst (v := nI 3) h dL_law_61 (by decide) ?_
    refine g_callS (As := [.int _, .int (nI 3)]) h 2 (c_below l E _ _ 3 (by decide) (by decide)) rfl gL_law_L_below rfl rfl rfl rfl (by decide +kernel) ⟨Nat.le_of_ble_eq_true rfl, Nat.le_of_ble_eq_true rfl⟩ dL_law_62 ⟨by show _ + 0 ≤ 879821; omega, by show _ + 0 ≤ 6462004; omega⟩ (Nat.le_of_ble_eq_true rfl) ?_
    rintro _ _ ⟨⟨wa, hwa, rfl⟩, hy⟩
    obtain rfl := hy.symm
    dsimp only [Option.toList, List.cons_append, List.nil_append]
    refine g_iaddN h dL_law_65 ?_
    refine g_aload_n h 0 dL_law_66 rfl rfl ?_
    refine g_iload h 6 dL_law_67 rfl ?_
    refine g_callSS (As := [.ref b, .int (nI t)]) h hX hbl hbA 2 (c_cell l E _ b L xs hLb t (by omega)) rfl gL_law_L_cell rfl rfl rfl rfl (by decide +kernel) ⟨Nat.le_of_ble_eq_true rfl, Nat.le_of_ble_eq_true rfl⟩ dL_law_69 ⟨by show _ + 0 ≤ 879821; omega, by show _ + 0 ≤ 6462004; omega⟩ (Nat.le_of_ble_eq_true rfl) ?_
    rintro _ _ ⟨⟨a1, rfl⟩, hy⟩
    obtain rfl := hy.symm
    dsimp only [Option.toList, List.cons_append, List.nil_append]
    refine g_iconst (v := nI 4) h dL_law_72 (by decide) ?_
    refine g_ishr h dL_law_73 ?_
    refine g_iconst (v := nI 3) h dL_law_74 (by decide) ?_
    refine g_callS (As := [.int _, .int (nI 3)]) h 2 (c_below l E _ _ 3 (by decide) (by decide)) rfl gL_law_L_below rfl rfl rfl rfl (by decide +kernel) ⟨Nat.le_of_ble_eq_true rfl, Nat.le_of_ble_eq_true rfl⟩ dL_law_75 ⟨by show _ + 0 ≤ 879821; omega, by show _ + 0 ≤ 6462004; omega⟩ (Nat.le_of_ble_eq_true rfl) ?_
    rintro _ _ ⟨⟨vi, hvi, rfl⟩, hy⟩
    obtain rfl := hy.symm
    dsimp only [Option.toList, List.cons_append, List.nil_append]
    obtain ⟨s1, r3⟩ := room_v (w := 1 + wa) (b := vi) hS.2 (show t < 4 by omega) (by omega) (by omega) (by omega) (hu t (Nat.le_refl _) (by omega))
    refine g_callV (As := [.int (nI t), .int (nI (1 + wa)), .int (nI vi)]) (C := RX5) h 3 (c_X5_setRoom l E _ v [] hS.1 t (1 + wa) vi (by omega) (by omega) (by omega) (by omega) (hu t (Nat.le_refl _) (by omega))) rfl gL_law_X5_setRoom rfl rfl rfl rfl (by decide +kernel) ⟨Nat.le_of_ble_eq_true rfl, Nat.le_of_ble_eq_true rfl⟩ (wat_D E _) rfl rfl dL_law_78 ⟨by dsimp only [RM0]; omega, by dsimp only [RM0]; omega⟩ (Nat.le_of_ble_eq_true rfl) ?_
    rintro _ y ⟨rfl, hV⟩
    dsimp only [Option.toList, List.cons_append, List.nil_append]
    refine g_pop h dL_law_81 rfl ?_
    refine g_iinc (lv' := [(0, .ref b), (1, .ref (aD E)), (2, .ref (aY E 0)), (3, .ref (aY E 1)), (4, .ref (aY E 2)), (5, .ref (aY E 3)), (6, .int (nI (t + 1)))]) h 6 [1, 2, 3, 4, 5, 6, 0] dL_law_82 rfl (nI_add _ 1) (by decide) rfl ?_
    refine g_goto h 45 dL_law_85 (by decide) ?_
    exact ih (t + 1) y _ A (by omega) ⟨hV, s1⟩ (hL.eq r3) (fun k hk hk4 => by rw [room_use (by omega)]; exact hu k (by omega) hk4)
end LAW
