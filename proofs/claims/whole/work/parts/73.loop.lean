/-! ===== the law's loop ===== -/
section LOOP
variable {p : Program} {l : Launch} {e : Env} {s : State} {m : MethodId} {below : List Frame} {meth : Method} {c : Code} {Q : State → Prop} {E : gE} {S0 x : St} {b L : Nat} {xs : Nat → Int32}
theorem LI.up {y : St} {t cs sl : Nat} (h : LI y t cs sl) : LI y (t + 1) cs sl := by
  obtain ⟨v, T, U, hV, hS, hb, hc, hs⟩ := h
  exact ⟨v, T, U, hV, hS, by omega, by omega, by omega⟩
theorem loop_c {L t : Nat} (hL : L ≤ 2048) (ht : 4 * t ≤ 2048) (h : ¬ nI L - nI 4 < nI (4 * t)) : 4 * t + 4 ≤ L := by
  by_cases h4 : 4 ≤ L
  · rw [pk_sub h4, nI_ltI (by omega) (by omega)] at h
    omega
  · have h5 : nI L - nI 4 < 0 := by
      have h6 : L = 0 ∨ L = 1 ∨ L = 2 ∨ L = 3 := by omega
      rcases h6 with h6 | h6 | h6 | h6 <;> rw [h6] <;> decide
    exact absurd (Int32.lt_of_lt_of_le h5 (nI_pos' (by omega))) h
theorem law_loop (hlt : l.stackTraces = false) (h : gO p s m #[.ref b] c cL_law 7 RL wsL_law E S0) (hX : va_X b L xs s s.heap) (hbl : b < s.heap.size) (hbA : ¬ gA E S0 s b) (hL : L ≤ 2048)
    (hend : ∀ (y : St) (cs sl : Nat) (lv : List (Nat × Value)), cs ≤ 601024 → sl ≤ 7293034 → G p l e RM0 s m #[.ref b] below meth c Q E S0 7 cs sl y 1716 lv [.int (nI 1)]) :
    ∀ (r t : Nat) (x : St) (cs sl : Nat), t + r = 513 → 4 * t ≤ 2048 → LI x t cs sl → G p l e RM0 s m #[.ref b] below meth c Q E S0 7 cs sl x 23 [(0, .ref b), (1, .ref (aD E)), (2, .ref (aM E)), (3, .ref (aO E)), (4, .int (nI (4 * t)))] [] := by
  intro r
  induction r with
  | zero =>
    intro t x cs sl h1 h2
    omega
  | succ r ih =>
    intro t x cs sl h1 h2 hx
    obtain ⟨b1, b2⟩ := hx.le
    refine g_iload h 4 dL_law_23 rfl ?_
    refine g_aload_n h 0 dL_law_25 rfl rfl ?_
    refine g_slen h hX hbl hbA dL_law_26 ?_
    refine g_iconst (v := nI 4) h dL_law_27 (by decide) ?_
    refine g_isub h dL_law_28 ?_
    refine g_icmp_gt h 1715 dL_law_29 (by decide) (fun _ => ?_) (fun hc => ?_)
    · refine g_iconst (v := nI 1) h dL_law_1715 (by decide) ?_
      exact hend x cs sl _ (by omega) (by omega)
    have h4 := loop_c hL h2 hc
    have K : ∀ (y : St) (cs' sl' : Nat), LI y (t + 1) cs' sl' → G p l e RM0 s m #[.ref b] below meth c Q E S0 7 cs' sl' y 1709 [(0, .ref b), (1, .ref (aD E)), (2, .ref (aM E)), (3, .ref (aO E)), (4, .int (nI (4 * t)))] [] := by
      intro y cs' sl' hy
      refine g_iinc (lv' := [(0, _), (1, _), (2, _), (3, _), (4, .int (nI (4 * (t + 1))))]) h 4 [1, 2, 3, 4, 0] dL_law_1709 rfl (nI_add _ 4) (by decide) rfl ?_
      refine g_goto h 23 dL_law_1712 (by decide) ?_
      exact ih (t + 1) y cs' sl' (by omega) (by omega) hy
    refine g_aload_n h 0 dL_law_32 rfl rfl ?_
    refine g_iload h 4 dL_law_33 rfl ?_
    refine g_sld h hX hbl hbA (by omega) (by omega) dL_law_35 ?_
    refine g_bipush (v := 31) h dL_law_36 (by decide) ?_
    refine g_iand h dL_law_38 ?_
    generalize xs (4 * t) &&& 31 = a
    by_cases ho : a.toInt < 0 ∨ 27 < a.toInt
    · exact g_tableOut h 1709 dL_law_39 ho (by decide) (K _ _ _ hx.up)
    simp only [not_or] at ho
    obtain ⟨ho1, ho2⟩ := ho
    have hk : a.toInt = 0 ∨ a.toInt = 1 ∨ a.toInt = 2 ∨ a.toInt = 3 ∨ a.toInt = 4 ∨ a.toInt = 5 ∨ a.toInt = 6 ∨ a.toInt = 7 ∨ a.toInt = 8 ∨ a.toInt = 9 ∨ a.toInt = 10 ∨ a.toInt = 11 ∨ a.toInt = 12 ∨ a.toInt = 13 ∨ a.toInt = 14 ∨ a.toInt = 15 ∨ a.toInt = 16 ∨ a.toInt = 17 ∨ a.toInt = 18 ∨ a.toInt = 19 ∨ a.toInt = 20 ∨ a.toInt = 21 ∨ a.toInt = 22 ∨ a.toInt = 23 ∨ a.toInt = 24 ∨ a.toInt = 25 ∨ a.toInt = 26 ∨ a.toInt = 27 := by omega
    rcases hk with hk | hk | hk | hk | hk | hk | hk | hk | hk | hk | hk | hk | hk | hk | hk | hk | hk | hk | hk | hk | hk | hk | hk | hk | hk | hk | hk | hk
    · exact g_tableIn (off := 125) h 164 dL_law_39 ho1 ho2 (by rw [hk]; rfl) (by decide) (law_0_setRoom hlt h hX hbl hbA (by omega) h4 hx (by omega) K)
    · exact g_tableIn (off := 212) h 251 dL_law_39 ho1 ho2 (by rw [hk]; rfl) (by decide) (law_1_read hlt h hX hbl hbA (by omega) h4 hx (by omega) K)
    · exact g_tableIn (off := 280) h 319 dL_law_39 ho1 ho2 (by rw [hk]; rfl) (by decide) (law_2_write hlt h hX hbl hbA (by omega) h4 hx (by omega) K)
    · exact g_tableIn (off := 367) h 406 dL_law_39 ho1 ho2 (by rw [hk]; rfl) (by decide) (law_3_evict hlt h hX hbl hbA (by omega) h4 hx (by omega) K)
    · exact g_tableIn (off := 435) h 474 dL_law_39 ho1 ho2 (by rw [hk]; rfl) (by decide) (law_4_state hlt h hX hbl hbA (by omega) h4 hx (by omega) K)
    · exact g_tableIn (off := 503) h 542 dL_law_39 ho1 ho2 (by rw [hk]; rfl) (by decide) (law_5_value hlt h hX hbl hbA (by omega) h4 hx (by omega) K)
    · exact g_tableIn (off := 571) h 610 dL_law_39 ho1 ho2 (by rw [hk]; rfl) (by decide) (law_6_victimValue hlt h hX hbl hbA (by omega) h4 hx (by omega) K)
    · exact g_tableIn (off := 639) h 678 dL_law_39 ho1 ho2 (by rw [hk]; rfl) (by decide) (law_7_openLine hlt h hX hbl hbA (by omega) h4 hx (by omega) K)
    · exact g_tableIn (off := 695) h 734 dL_law_39 ho1 ho2 (by rw [hk]; rfl) (by decide) (law_8_latestRead hlt h hX hbl hbA (by omega) h4 hx (by omega) K)
    · exact g_tableIn (off := 751) h 790 dL_law_39 ho1 ho2 (by rw [hk]; rfl) (by decide) (law_9_lineAt hlt h hX hbl hbA (by omega) h4 hx (by omega) K)
    · exact g_tableIn (off := 819) h 858 dL_law_39 ho1 ho2 (by rw [hk]; rfl) (by decide) (law_10_owner hlt h hX hbl hbA (by omega) h4 hx (by omega) K)
    · exact g_tableIn (off := 875) h 914 dL_law_39 ho1 ho2 (by rw [hk]; rfl) (by decide) (law_11_sharers hlt h hX hbl hbA (by omega) h4 hx (by omega) K)
    · exact g_tableIn (off := 931) h 970 dL_law_39 ho1 ho2 (by rw [hk]; rfl) (by decide) (law_12_isBusy hlt h hX hbl hbA (by omega) h4 hx (by omega) K)
    · exact g_tableIn (off := 994) h 1033 dL_law_39 ho1 ho2 (by rw [hk]; rfl) (by decide) (law_13_queued hlt h hX hbl hbA (by omega) h4 hx (by omega) K)
    · exact g_tableIn (off := 1050) h 1089 dL_law_39 ho1 ho2 (by rw [hk]; rfl) (by decide) (law_14_memory hlt h hX hbl hbA (by omega) h4 hx (by omega) K)
    · exact g_tableIn (off := 1106) h 1145 dL_law_39 ho1 ho2 (by rw [hk]; rfl) (by decide) (law_15_messageCount h hx (by omega) K)
    · exact g_tableIn (off := 1119) h 1158 dL_law_39 ho1 ho2 (by rw [hk]; rfl) (by decide) (law_16_messageKind hlt h hX hbl hbA (by omega) h4 hx (by omega) K)
    · exact g_tableIn (off := 1175) h 1214 dL_law_39 ho1 ho2 (by rw [hk]; rfl) (by decide) (law_17_messageLine hlt h hX hbl hbA (by omega) h4 hx (by omega) K)
    · exact g_tableIn (off := 1231) h 1270 dL_law_39 ho1 ho2 (by rw [hk]; rfl) (by decide) (law_18_messageFrom hlt h hX hbl hbA (by omega) h4 hx (by omega) K)
    · exact g_tableIn (off := 1287) h 1326 dL_law_39 ho1 ho2 (by rw [hk]; rfl) (by decide) (law_19_messageTo hlt h hX hbl hbA (by omega) h4 hx (by omega) K)
    · exact g_tableIn (off := 1343) h 1382 dL_law_39 ho1 ho2 (by rw [hk]; rfl) (by decide) (law_20_deliver hlt h hX hbl hbA (by omega) h4 hx (by omega) K)
    · exact g_tableIn (off := 1399) h 1438 dL_law_39 ho1 ho2 (by rw [hk]; rfl) (by decide) (law_21_settle hlt h hX hbl hbA (by omega) h4 hx (by omega) K)
    · exact g_tableIn (off := 1455) h 1494 dL_law_39 ho1 ho2 (by rw [hk]; rfl) (by decide) (law_22_hits hlt h hX hbl hbA (by omega) h4 hx (by omega) K)
    · exact g_tableIn (off := 1511) h 1550 dL_law_39 ho1 ho2 (by rw [hk]; rfl) (by decide) (law_23_misses hlt h hX hbl hbA (by omega) h4 hx (by omega) K)
    · exact g_tableIn (off := 1567) h 1606 dL_law_39 ho1 ho2 (by rw [hk]; rfl) (by decide) (law_24_writebacks h hx (by omega) K)
    · exact g_tableIn (off := 1580) h 1619 dL_law_39 ho1 ho2 (by rw [hk]; rfl) (by decide) (law_25_lateWritebacks h hx (by omega) K)
    · exact g_tableIn (off := 1593) h 1632 dL_law_39 ho1 ho2 (by rw [hk]; rfl) (by decide) (law_26_isInOrder hlt h hX hbl hbA (by omega) h4 hx (by omega) K)
    · exact g_tableIn (off := 1656) h 1695 dL_law_39 ho1 ho2 (by rw [hk]; rfl) (by decide) (law_27_digest h hx (by omega) K)
end LOOP
