theorem AM_ite {c : Prop} [Decidable c] {a b : St} {q : Nat} : (if c then a else b).AM q = if c then a.AM q else b.AM q := by split <;> rfl
theorem sOK_ite {c : Prop} [Decidable c] {a b : St} {k : Nat} (h1 : sOK a k) (h2 : sOK b k) : sOK (if c then a else b) k := by
  split
  · exact h1
  · exact h2
theorem AM_process {x : St} {j q : Nat} {c : Int32} (h1 : q ≠ 16) (h2 : q ≠ 17) (h3 : q ≠ 18) (h4 : q ≠ 19) (h5 : q ≠ 22) : (s_X6_process x j c).AM q = x.AM q := by
  simp only [s_X6_process, AM_ite, AM_ne h1, AM_ne h2, AM_ne h3, AM_ne h4, send_AM h5, AM_lp_process h5, St.AM_setFM, ite_self]
theorem sOK_process {x : St} {j k : Nat} {c : Int32} (h : sOK x (k + 5)) : sOK (s_X6_process x j c) k := by
  have h1 : sOK x (k + 1) := h.mono (by omega)
  have h2 : ∀ f b, sOK (lp_X6_process_163 x j c b (x.setAM 19 f) 4).2 (k + 1) := fun f b => sOK_lp_process (k := k + 1) (sOK_AM h) 4 (by omega)
  unfold s_X6_process
  dsimp only
  refine sOK_ite (sOK_ite ?_ ?_) (sOK_ite (sOK_ite ?_ ?_) (sOK_ite ?_ (sOK_ite ?_ ?_)))
  · exact sOK_send _ _ _ _ _ _ _ (sOK_FM (by decide) (sOK_AM (sOK_AM (sOK_AM h1))))
  · exact sOK_send _ _ _ _ _ _ _ (sOK_FM (by decide) h1)
  · exact sOK_send _ _ _ _ _ _ _ (sOK_AM (sOK_AM h1))
  · exact sOK_send _ _ _ _ _ _ _ (sOK_AM (sOK_AM h1))
  · exact sOK_AM (sOK_AM (sOK_send _ _ _ _ _ _ _ (h2 _ _)))
  · exact sOK_AM (sOK_AM (sOK_send _ _ _ _ _ _ _ (h2 _ _)))
  · exact sOK_AM (sOK_AM (sOK_send _ _ _ _ _ _ _ (h2 _ _)))
theorem in_X6_free_X6 : ∀ w ∈ wsX60, w ∈ wsX6_free := by decide +kernel
theorem lk_X6_free_68 : Cond.fieldLink RX6 68 "CacheDirectoryModel" "isBusy" "[Z" ∈ wsX6_free := by decide +kernel
theorem lk_X6_free_74 : Cond.fieldLink RX6 74 "CacheDirectoryModel" "queued" "[I" ∈ wsX6_free := by decide +kernel
theorem lk_X6_free_80 : Cond.fieldLink RX6 80 "CacheDirectoryModel" "now" "[I" ∈ wsX6_free := by decide +kernel
theorem lk_X6_free_71 : Cond.fieldLink RX6 71 "CacheDirectoryModel" "queues" "[I" ∈ wsX6_free := by decide +kernel
def lp_X6_free_73 (x : St) (j : Nat) (a15 : Nat) (y : St) (b73_0 : St) : Nat → St
  | 0 => b73_0
  | a73 + 1 =>
  let x4 := ((lp_X6_free_73 x j a15 y b73_0 a73)).setAM 20 (upd (((lp_X6_free_73 x j a15 y b73_0 a73)).AM 20) (40 * j * 7 + a73) (((lp_X6_free_73 x j a15 y b73_0 a73)).AM 20 ((40 * j * 7 + a73) + 7)))
  x4
def lp_X6_free_35 (x : St) (j : Nat) (a15 : Nat) (y : St) (b35_0 : St) : Nat → St
  | 0 => b35_0
  | a35 + 1 =>
  let x5 := ((lp_X6_free_35 x j a15 y b35_0 a35)).setAM 23 (upd (((lp_X6_free_35 x j a15 y b35_0 a35)).AM 23) a35 (((lp_X6_free_35 x j a15 y b35_0 a35)).AM 20 (((40 * j) * 7) + a35)))
  x5
def lq_X6_free_15 (x : St) (j : Nat) : Nat → Nat → St → St
  | 0, a15, y =>
    if (y.AM 19 j) = 0 then
      y
    else
      y

  | n15 + 1, a15, y =>
    if (y.AM 19 j) = 0 then
      let x2 := ((lp_X6_free_35 x j a15 y y 7)).setAM 21 (upd (((lp_X6_free_35 x j a15 y y 7)).AM 21) j (nI ((n15 + 1) - 1)))
      let x3 := s_X6_process ((lp_X6_free_73 x j a15 y ((((lp_X6_free_35 x j a15 y y 7)).setAM 21 (upd (((lp_X6_free_35 x j a15 y y 7)).AM 21) j (nI ((n15 + 1) - 1))))) (7 * (n15 + 1 - 1)))) j (((lp_X6_free_73 x j a15 y ((((lp_X6_free_35 x j a15 y y 7)).setAM 21 (upd (((lp_X6_free_35 x j a15 y y 7)).AM 21) j (nI ((n15 + 1) - 1))))) (7 * (n15 + 1 - 1)))).AM 23 2)
      lq_X6_free_15 x j n15 (a15 + 1) ((s_X6_process ((lp_X6_free_73 x j a15 y ((((lp_X6_free_35 x j a15 y y 7)).setAM 21 (upd (((lp_X6_free_35 x j a15 y y 7)).AM 21) j (nI ((n15 + 1) - 1))))) (7 * (n15 + 1 - 1)))) j (((lp_X6_free_73 x j a15 y ((((lp_X6_free_35 x j a15 y y 7)).setAM 21 (upd (((lp_X6_free_35 x j a15 y y 7)).AM 21) j (nI ((n15 + 1) - 1))))) (7 * (n15 + 1 - 1)))).AM 23 2)))
    else
      y
theorem AM_lp_free_35 {x : St} {j a15 : Nat} {y b : St} {q : Nat} (hq : q ≠ 23) : ∀ a, (lp_X6_free_35 x j a15 y b a).AM q = b.AM q := by
  intro a
  induction a with
  | zero => rfl
  | succ a ih => exact (AM_ne hq).trans ih
theorem FM_lp_free_35 {x : St} {j a15 : Nat} {y b : St} : ∀ a, (lp_X6_free_35 x j a15 y b a).FM = b.FM := by
  intro a
  induction a with
  | zero => rfl
  | succ a ih => exact (St.FM_setAM _ _ _).trans ih
theorem sOK_lp_free_35 {x : St} {j a15 : Nat} {y b : St} {k9 : Nat} (h : sOK b k9) (a : Nat) : sOK (lp_X6_free_35 x j a15 y b a) k9 := sOK_FM4 (congrFun (FM_lp_free_35 a) 4) h
theorem AM_lp_free_73 {x : St} {j a15 : Nat} {y b : St} {q : Nat} (hq : q ≠ 20) : ∀ a, (lp_X6_free_73 x j a15 y b a).AM q = b.AM q := by
  intro a
  induction a with
  | zero => rfl
  | succ a ih => exact (AM_ne hq).trans ih
theorem FM_lp_free_73 {x : St} {j a15 : Nat} {y b : St} : ∀ a, (lp_X6_free_73 x j a15 y b a).FM = b.FM := by
  intro a
  induction a with
  | zero => rfl
  | succ a ih => exact (St.FM_setAM _ _ _).trans ih
theorem sOK_lp_free_73 {x : St} {j a15 : Nat} {y b : St} {k9 : Nat} (h : sOK b k9) (a : Nat) : sOK (lp_X6_free_73 x j a15 y b a) k9 := sOK_FM4 (congrFun (FM_lp_free_73 a) 4) h
def s_X6_free (x : St) (j : Nat) : St :=
  let x1 := x.setAM 19 (upd (x.AM 19) j (vp_nar .boolean (nI 0)))
  lq_X6_free_15 x j (nat (x.AM 21 j)) 0 ((x.setAM 19 (upd (x.AM 19) j (vp_nar .boolean (nI 0)))))
set_option maxRecDepth 100000 in
set_option maxHeartbeats 400000 in
theorem c_X6_free (l : Launch) (E : gE) (x : St) (j : Nat) (hj : j < 16) (hq : x.AM 21 j = nI (nat (x.AM 21 j)) ∧ nat (x.AM 21 j) ≤ 40) (hs : sOK x (5 * nat (x.AM 21 j))) : Ct l yX6_free wsX6_free { frames := 2, cells := 0, slots := 0, locals := 53 } E [.ref (aM E), .int (nI j)] x (fun v y => v = none ∧ y = s_X6_free x j) 0 0 := by
  refine Ct.of (cc := cX6_free) (nL := 4) (ret := none) (by decide) rfl (Nat.le_of_ble_eq_true rfl) ?_
  intro p e s m args below meth c h hr hk hname
  refine g_lvs (lv' := [(0, _), (1, _)]) rfl ?_
  have hq2 := hq.2
  refine g_aload_n h 0 dX6_free_0 rfl rfl ?_
  refine g_get (C := RX6) (T := TX6) (N := 29) h 21 (wat_M E _) rfl in_X6_free_X6 (by decide) lk_X6_free_68 rfl rfl dX6_free_1 ?_
  refine g_iload_n h 1 dX6_free_4 rfl rfl ?_
  refine g_iconst (v := nI 0) h dX6_free_5 (by decide) ?_
  refine g_zast (n := 16) h (ws_Y E _ (i := 19) (by decide) _) (by omega) (by decide) dX6_free_6 ?_
  refine g_bipush (v := nI 40) h dX6_free_7 (by decide) ?_
  refine g_iload_n h 1 dX6_free_9 rfl rfl ?_
  refine g_imulN h dX6_free_10 ?_
  refine g_bipush (v := nI 7) h dX6_free_11 (by decide) ?_
  refine g_imulN h dX6_free_13 ?_
  refine g_istore_n (lv' := [(0, _), (1, _), (2, _)]) h [1, 2, 0] dX6_free_14 rfl (by decide) rfl ?_
  have loop15 : ∀ (k15 a15 n15 : Nat) (y : St), n15 < k15 → a15 + n15 = nat (x.AM 21 j) → lq_X6_free_15 x j n15 a15 y = lq_X6_free_15 x j (nat (x.AM 21 j)) 0 ((x.setAM 19 (upd (x.AM 19) j (vp_nar .boolean (nI 0))))) → sOK y (5 * n15) ∧ y.AM 21 j = nI n15 → gG p l e ({ frames := 2, cells := 0, slots := 0, locals := 53 } : Room) s m args below meth c (gQ below E x s (fun v y => v = none ∧ y = s_X6_free x j) args 0 0) E x 4 0 0 y 15 [(0, .ref (aM E)), (1, .int (nI j)), (2, .int (nI ((40 * j) * 7)))] [] := by
    intro k15
    induction k15 with
    | zero => intro a15 n15 y hk15; exact absurd hk15 (by omega)
    | succ k15 ih15 =>
      intro a15 n15 y hk15 ha15 hq15 hi15
      rcases Nat.eq_zero_or_pos n15 with hz15 | hz15
      · skip
        subst hz15
        refine g_aload_n h 0 dX6_free_15 rfl rfl ?_
        refine g_get (C := RX6) (T := TX6) (N := 29) h 21 (wat_M E _) rfl in_X6_free_X6 (by decide) lk_X6_free_68 rfl rfl dX6_free_16 ?_
        refine g_iload_n h 1 dX6_free_19 rfl rfl ?_
        refine g_zald (n := 16) h (wat_Y E _ (i := 19) (by decide)) (by omega) (by decide) dX6_free_20 ?_
        refine g_if_ne h 123 dX6_free_21 (by decide) (fun c_21 => ?_) (fun c_21 => ?_)
        · skip
          exact g_vret h hr hk dX6_free_123 (Nat.zero_le _) (Nat.zero_le _) ⟨rfl, (Eq.trans (Eq.trans (Eq.symm (if_neg c_21)) hq15) (Eq.symm rfl))⟩
        · skip
          refine g_aload_n h 0 dX6_free_24 rfl rfl ?_
          refine g_get (C := RX6) (T := TX6) (N := 29) h 23 (wat_M E _) rfl in_X6_free_X6 (by decide) lk_X6_free_74 rfl rfl dX6_free_25 ?_
          refine g_iload_n h 1 dX6_free_28 rfl rfl ?_
          refine g_iald (n := 16) h (wat_Y E _ (i := 21) (by decide)) (by omega) (by decide) dX6_free_29 ?_
          refine g_eqi (hi15.2) ?_
          refine g_if_le h 123 dX6_free_30 (by decide) (fun c_30 => ?_) (fun c_30 => absurd c_30 (by decide))
          exact g_vret h hr hk dX6_free_123 (Nat.zero_le _) (Nat.zero_le _) ⟨rfl, (Eq.trans (Eq.trans (Eq.symm (if_pos c_21)) hq15) (Eq.symm rfl))⟩
      · skip
        obtain ⟨n15, rfl⟩ : ∃ q, n15 = q + 1 := ⟨n15 - 1, by omega⟩
        refine g_aload_n h 0 dX6_free_15 rfl rfl ?_
        refine g_get (C := RX6) (T := TX6) (N := 29) h 21 (wat_M E _) rfl in_X6_free_X6 (by decide) lk_X6_free_68 rfl rfl dX6_free_16 ?_
        refine g_iload_n h 1 dX6_free_19 rfl rfl ?_
        refine g_zald (n := 16) h (wat_Y E _ (i := 19) (by decide)) (by omega) (by decide) dX6_free_20 ?_
        refine g_if_ne h 123 dX6_free_21 (by decide) (fun c_21 => ?_) (fun c_21 => ?_)
        · skip
          exact g_vret h hr hk dX6_free_123 (Nat.zero_le _) (Nat.zero_le _) ⟨rfl, (Eq.trans (Eq.trans (Eq.symm (if_neg c_21)) hq15) (Eq.symm rfl))⟩
        · skip
          refine g_aload_n h 0 dX6_free_24 rfl rfl ?_
          refine g_get (C := RX6) (T := TX6) (N := 29) h 23 (wat_M E _) rfl in_X6_free_X6 (by decide) lk_X6_free_74 rfl rfl dX6_free_25 ?_
          refine g_iload_n h 1 dX6_free_28 rfl rfl ?_
          refine g_iald (n := 16) h (wat_Y E _ (i := 21) (by decide)) (by omega) (by decide) dX6_free_29 ?_
          refine g_eqi (hi15.2) ?_
          refine g_if_le h 123 dX6_free_30 (by decide) (fun c_30 => absurd c_30 (nI_nle (by omega) (by omega))) (fun c_30 => ?_)
          refine g_iconst (v := nI 0) h dX6_free_33 (by decide) ?_
          refine g_istore_n (lv' := [(0, _), (1, _), (2, _), (3, _)]) h [1, 2, 3, 0] dX6_free_34 rfl (by decide) rfl ?_
          have loop35 : ∀ (k35 a35 : Nat), (7) - a35 < k35 → a35 ≤ 7 → gG p l e ({ frames := 2, cells := 0, slots := 0, locals := 53 } : Room) s m args below meth c (gQ below E x s (fun v y => v = none ∧ y = s_X6_free x j) args 0 0) E x 4 0 0 ((lp_X6_free_35 x j a15 y y a35)) 35 [(0, .ref (aM E)), (1, .int (nI j)), (2, .int (nI ((40 * j) * 7))), (3, .int (nI a35))] [] := by
            intro k35
            induction k35 with
            | zero => intro a35 hk35; exact absurd hk35 (by omega)
            | succ k35 ih35 =>
              intro a35 hk35 ha35
              refine g_iload_n h 3 dX6_free_35 rfl rfl ?_
              refine g_bipush (v := nI 7) h dX6_free_36 (by decide) ?_
              refine g_icmp_geN h 61 dX6_free_38 (by decide) (by omega) (by omega) (fun c_38 => ?_) (fun c_38 => ?_)
              · skip
                obtain rfl : a35 = 7 := by omega
                refine g_aload_n h 0 dX6_free_61 rfl rfl ?_
                refine g_get (C := RX6) (T := TX6) (N := 29) h 23 (wat_M E _) rfl in_X6_free_X6 (by decide) lk_X6_free_74 rfl rfl dX6_free_62 ?_
                refine g_iload_n h 1 dX6_free_65 rfl rfl ?_
                refine g_dup2 h dX6_free_66 rfl rfl ?_
                refine g_iald (n := 16) h (wat_Y E _ (i := 21) (by decide)) (by omega) (by decide) dX6_free_67 ?_
                refine g_eqi ((congrFun (AM_lp_free_35 (by decide) 7) j).trans hi15.2) ?_
                refine g_iconst (v := nI 1) h dX6_free_68 (by decide) ?_
                refine g_isubN h dX6_free_69 (by omega) ?_
                refine g_iast (n := 16) h (ws_Y E _ (i := 21) (by decide) _) (by omega) (by decide) dX6_free_70 ?_
                refine g_iload_n h 2 dX6_free_71 rfl rfl ?_
                refine g_istore_n (lv' := [(0, _), (1, _), (2, _), (3, _)]) h [1, 2, 3, 0] dX6_free_72 rfl (by decide) rfl ?_
                have loop73 : ∀ (k73 a73 : Nat), (7 * (n15 + 1 - 1)) - a73 < k73 → a73 ≤ 7 * (n15 + 1 - 1) → gG p l e ({ frames := 2, cells := 0, slots := 0, locals := 53 } : Room) s m args below meth c (gQ below E x s (fun v y => v = none ∧ y = s_X6_free x j) args 0 0) E x 4 0 0 ((lp_X6_free_73 x j a15 y ((((lp_X6_free_35 x j a15 y y 7)).setAM 21 (upd (((lp_X6_free_35 x j a15 y y 7)).AM 21) j (nI ((n15 + 1) - 1))))) a73)) 73 [(0, .ref (aM E)), (1, .int (nI j)), (2, .int (nI ((40 * j) * 7))), (3, .int (nI (40 * j * 7 + a73)))] [] := by
                  intro k73
                  induction k73 with
                  | zero => intro a73 hk73; exact absurd hk73 (by omega)
                  | succ k73 ih73 =>
                    intro a73 hk73 ha73
                    refine g_iload_n h 3 dX6_free_73 rfl rfl ?_
                    refine g_iload_n h 2 dX6_free_74 rfl rfl ?_
                    refine g_bipush (v := nI 7) h dX6_free_75 (by decide) ?_
                    refine g_aload_n h 0 dX6_free_77 rfl rfl ?_
                    refine g_get (C := RX6) (T := TX6) (N := 29) h 23 (wat_M E _) rfl in_X6_free_X6 (by decide) lk_X6_free_74 rfl rfl dX6_free_78 ?_
                    refine g_iload_n h 1 dX6_free_81 rfl rfl ?_
                    refine g_iald (n := 16) h (wat_Y E _ (i := 21) (by decide)) (by omega) (by decide) dX6_free_82 ?_
                    refine g_eqi (((congrFun (AM_lp_free_73 (by decide) _) j).trans ((congrFun AM_eq j).trans pk_us))) ?_
                    refine g_imulN h dX6_free_83 ?_
                    refine g_iaddN h dX6_free_84 ?_
                    refine g_icmp_geN h 109 dX6_free_85 (by decide) (by omega) (by omega) (fun c_85 => ?_) (fun c_85 => ?_)
                    · skip
                      obtain rfl : a73 = 7 * (n15 + 1 - 1) := by omega
                      refine g_aload_n h 0 dX6_free_109 rfl rfl ?_
                      refine g_iload_n h 1 dX6_free_110 rfl rfl ?_
                      refine g_aload_n h 0 dX6_free_111 rfl rfl ?_
                      refine g_get (C := RX6) (T := TX6) (N := 29) h 28 (wat_M E _) rfl in_X6_free_X6 (by decide) lk_X6_free_80 rfl rfl dX6_free_112 ?_
                      refine g_iconst (v := nI 2) h dX6_free_115 (by decide) ?_
                      refine g_iald (n := 7) h (wat_Y E _ (i := 23) (by decide)) (by omega) (by decide) dX6_free_116 ?_
                      refine g_callV (As := [.int (nI j), .int _]) (C := RX6) h 2 (c_X6_process l E _ j _ (by omega) (sOK.mono (sOK_lp_free_73 (sOK_AM (sOK_lp_free_35 hi15.1 7)) (7 * (n15 + 1 - 1))) (by omega))) rfl gX6_free_X6_process rfl rfl rfl rfl (by decide +kernel) ⟨Nat.le_of_ble_eq_true rfl, Nat.le_of_ble_eq_true rfl⟩ (wat_M E _) rfl rfl dX6_free_117 ⟨Nat.le_refl _, Nat.le_refl _⟩ (Nat.le_of_ble_eq_true rfl) ?_
                      rintro _ _ ⟨rfl, hy⟩
                      obtain rfl := hy.symm
                      dsimp only [Option.toList, List.cons_append, List.nil_append]
                      refine g_goto h 15 dX6_free_120 (by decide) ?_
                      refine g_lv (lv' := [(0, _), (1, _), (2, _)]) [0, 1, 2] rfl ?_
                      exact ih15 (a15 + 1) n15 _ (by omega) (by omega) (Eq.trans (Eq.symm (if_pos c_21)) hq15) (⟨(sOK_process (k := 5 * n15) (sOK.mono (sOK_lp_free_73 (sOK_AM (sOK_lp_free_35 hi15.1 7)) (7 * (n15 + 1 - 1))) (by omega))), (congrFun (AM_process (by decide) (by decide) (by decide) (by decide) (by decide)) j).trans ((congrFun (AM_lp_free_73 (by decide) _) j).trans ((congrFun AM_eq j).trans pk_us))⟩)
                    · skip
                      have hlt_85 : a73 < 7 * (n15 + 1 - 1) := by omega
                      refine g_aload_n h 0 dX6_free_88 rfl rfl ?_
                      refine g_get (C := RX6) (T := TX6) (N := 29) h 22 (wat_M E _) rfl in_X6_free_X6 (by decide) lk_X6_free_71 rfl rfl dX6_free_89 ?_
                      refine g_iload_n h 3 dX6_free_92 rfl rfl ?_
                      refine g_aload_n h 0 dX6_free_93 rfl rfl ?_
                      refine g_get (C := RX6) (T := TX6) (N := 29) h 22 (wat_M E _) rfl in_X6_free_X6 (by decide) lk_X6_free_71 rfl rfl dX6_free_94 ?_
                      refine g_iload_n h 3 dX6_free_97 rfl rfl ?_
                      refine g_bipush (v := nI 7) h dX6_free_98 (by decide) ?_
                      refine g_iaddN h dX6_free_100 ?_
                      refine g_iald (n := 4480) h (wat_Y E _ (i := 20) (by decide)) (by omega) (by decide) dX6_free_101 ?_
                      refine g_iast (n := 4480) h (ws_Y E _ (i := 20) (by decide) _) (by omega) (by decide) dX6_free_102 ?_
                      refine g_iinc (lv' := [(0, _), (1, _), (2, _), (3, .int (nI (40 * j * 7 + a73 + 1)))]) h 3 [1, 2, 3, 0] dX6_free_103 rfl (nI_add _ 1) (by decide) rfl ?_
                      refine g_goto h 73 dX6_free_106 (by decide) ?_
                      have hb73 : lp_X6_free_73 x j a15 y ((((lp_X6_free_35 x j a15 y y 7)).setAM 21 (upd (((lp_X6_free_35 x j a15 y y 7)).AM 21) j (nI ((n15 + 1) - 1))))) (a73 + 1) = (((lp_X6_free_73 x j a15 y ((((lp_X6_free_35 x j a15 y y 7)).setAM 21 (upd (((lp_X6_free_35 x j a15 y y 7)).AM 21) j (nI ((n15 + 1) - 1))))) a73)).setAM 20 (upd (((lp_X6_free_73 x j a15 y ((((lp_X6_free_35 x j a15 y y 7)).setAM 21 (upd (((lp_X6_free_35 x j a15 y y 7)).AM 21) j (nI ((n15 + 1) - 1))))) a73)).AM 20) (40 * j * 7 + a73) (((lp_X6_free_73 x j a15 y ((((lp_X6_free_35 x j a15 y y 7)).setAM 21 (upd (((lp_X6_free_35 x j a15 y y 7)).AM 21) j (nI ((n15 + 1) - 1))))) a73)).AM 20 ((40 * j * 7 + a73) + 7)))) := rfl
                      refine g_x (y := (lp_X6_free_73 x j a15 y ((((lp_X6_free_35 x j a15 y y 7)).setAM 21 (upd (((lp_X6_free_35 x j a15 y y 7)).AM 21) j (nI ((n15 + 1) - 1))))) (a73 + 1))) (by rw [hb73]) ?_
                      exact ih73 (a73 + 1) (by omega) (by omega)
                exact loop73 (7 * (n15 + 1 - 1) + 1) 0 (by omega) (by omega)
              · skip
                have hlt_38 : a35 < 7 := by omega
                refine g_aload_n h 0 dX6_free_41 rfl rfl ?_
                refine g_get (C := RX6) (T := TX6) (N := 29) h 28 (wat_M E _) rfl in_X6_free_X6 (by decide) lk_X6_free_80 rfl rfl dX6_free_42 ?_
                refine g_iload_n h 3 dX6_free_45 rfl rfl ?_
                refine g_aload_n h 0 dX6_free_46 rfl rfl ?_
                refine g_get (C := RX6) (T := TX6) (N := 29) h 22 (wat_M E _) rfl in_X6_free_X6 (by decide) lk_X6_free_71 rfl rfl dX6_free_47 ?_
                refine g_iload_n h 2 dX6_free_50 rfl rfl ?_
                refine g_iload_n h 3 dX6_free_51 rfl rfl ?_
                refine g_iaddN h dX6_free_52 ?_
                refine g_iald (n := 4480) h (wat_Y E _ (i := 20) (by decide)) (by omega) (by decide) dX6_free_53 ?_
                refine g_iast (n := 7) h (ws_Y E _ (i := 23) (by decide) _) (by omega) (by decide) dX6_free_54 ?_
                refine g_iinc (lv' := [(0, _), (1, _), (2, _), (3, .int (nI (a35 + 1)))]) h 3 [1, 2, 3, 0] dX6_free_55 rfl (nI_add _ 1) (by decide) rfl ?_
                refine g_goto h 35 dX6_free_58 (by decide) ?_
                have hb35 : lp_X6_free_35 x j a15 y y (a35 + 1) = (((lp_X6_free_35 x j a15 y y a35)).setAM 23 (upd (((lp_X6_free_35 x j a15 y y a35)).AM 23) a35 (((lp_X6_free_35 x j a15 y y a35)).AM 20 (((40 * j) * 7) + a35)))) := rfl
                refine g_x (y := (lp_X6_free_35 x j a15 y y (a35 + 1))) (by rw [hb35]) ?_
                exact ih35 (a35 + 1) (by omega) (by omega)
          exact loop35 (7 + 1) 0 (by omega) (by omega)
  exact loop15 (nat (x.AM 21 j) + 1) 0 (nat (x.AM 21 j)) ((x.setAM 19 (upd (x.AM 19) j (vp_nar .boolean (nI 0))))) (by omega) (by omega) rfl (⟨sOK_AM hs, (congrFun (AM_ne (by decide)) j).trans hq.1⟩)
/-- message k can be taken: it is there, and says a line and a receiver; there is room for what follows -/
def tkOK (x : St) (k : Nat) : Prop := sOK x 50 ∧ k < nat (x.FM 4) ∧ (x.AM 22 (7 * k + 1) = nI (nat (x.AM 22 (7 * k + 1))) ∧ nat (x.AM 22 (7 * k + 1)) < 16) ∧ (x.AM 22 (7 * k + 3) = (-1 : Int32) ∨ (x.AM 22 (7 * k + 3) = nI (nat (x.AM 22 (7 * k + 3))) ∧ nat (x.AM 22 (7 * k + 3)) < 4)) ∧ (∀ j, j < 16 → x.AM 21 j = nI (nat (x.AM 21 j)) ∧ nat (x.AM 21 j) < 10) ∧ (¬ x.AM 22 (7 * k + 3) = (-1 : Int32) → (x.AM 22 (7 * k + 0) = nI 5 ∨ x.AM 22 (7 * k + 0) = nI 6 ∨ x.AM 22 (7 * k + 0) = nI 7) → x.AM 9 (nat (x.AM 22 (7 * k + 3))) = nI (nat (x.AM 9 (nat (x.AM 22 (7 * k + 3))))) ∧ nat (x.AM 9 (nat (x.AM 22 (7 * k + 3)))) < 16)
theorem tkOK_FM {x : St} {k : Nat} {v : Int32} (h : tkOK x k) : tkOK (x.setFM 0 v) k := by
  obtain ⟨h1, h2, h3⟩ := h
  refine ⟨sOK_FM (by decide) h1, by rw [FM4_0]; exact h2, ?_⟩
  simp only [St.AM_setFM]
  exact h3
theorem in_X6_take_X6 : ∀ w ∈ wsX60, w ∈ wsX6_take := by decide +kernel
theorem lk_X6_take_94 : Cond.fieldLink RX6 94 "CacheDirectoryModel" "sent" "I" ∈ wsX6_take := by decide +kernel
theorem lk_X6_take_80 : Cond.fieldLink RX6 80 "CacheDirectoryModel" "now" "[I" ∈ wsX6_take := by decide +kernel
theorem lk_X6_take_68 : Cond.fieldLink RX6 68 "CacheDirectoryModel" "isBusy" "[Z" ∈ wsX6_take := by decide +kernel
theorem lk_X6_take_77 : Cond.fieldLink RX6 77 "CacheDirectoryModel" "messages" "[I" ∈ wsX6_take := by decide +kernel
def lp_X6_take_46 (x : St) (k : Nat) (b46_0 : St) : Nat → St
  | 0 => b46_0
  | a46 + 1 =>
  let x6 := ((lp_X6_take_46 x k b46_0 a46)).setAM 22 (upd (((lp_X6_take_46 x k b46_0 a46)).AM 22) (7 * k + a46) (((lp_X6_take_46 x k b46_0 a46)).AM 22 ((7 * k + a46) + 7)))
  x6
def lp_X6_take_2 (x : St) (k : Nat) (b2_0 : St) : Nat → St
  | 0 => b2_0
  | a2 + 1 =>
  let x7 := ((lp_X6_take_2 x k b2_0 a2)).setAM 23 (upd (((lp_X6_take_2 x k b2_0 a2)).AM 23) a2 (((lp_X6_take_2 x k b2_0 a2)).AM 22 ((7 * k) + a2)))
  x7
theorem AM_lp_take_2 {x b : St} {k : Nat} {q : Nat} (hq : q ≠ 23) : ∀ a, (lp_X6_take_2 x k b a).AM q = b.AM q := by
  intro a
  induction a with
  | zero => rfl
  | succ a ih => exact (AM_ne hq).trans ih
theorem FM_lp_take_2 {x b : St} {k : Nat} : ∀ a, (lp_X6_take_2 x k b a).FM = b.FM := by
  intro a
  induction a with
  | zero => rfl
  | succ a ih => exact (St.FM_setAM _ _ _).trans ih
theorem sOK_lp_take_2 {x b : St} {k : Nat} {k9 : Nat} (h : sOK b k9) (a : Nat) : sOK (lp_X6_take_2 x k b a) k9 := sOK_FM4 (congrFun (FM_lp_take_2 a) 4) h
theorem AM_lp_take_46 {x b : St} {k : Nat} {q : Nat} (hq : q ≠ 22) : ∀ a, (lp_X6_take_46 x k b a).AM q = b.AM q := by
  intro a
  induction a with
  | zero => rfl
  | succ a ih => exact (AM_ne hq).trans ih
theorem FM_lp_take_46 {x b : St} {k : Nat} : ∀ a, (lp_X6_take_46 x k b a).FM = b.FM := by
  intro a
  induction a with
  | zero => rfl
  | succ a ih => exact (St.FM_setAM _ _ _).trans ih
theorem sOK_lp_take_46 {x b : St} {k : Nat} {k9 : Nat} (h : sOK b k9) (a : Nat) : sOK (lp_X6_take_46 x k b a) k9 := sOK_FM4 (congrFun (FM_lp_take_46 a) 4) h
theorem lp_take_at {x : St} {k : Nat} : ∀ a q, q < a → (lp_X6_take_2 x k x a).AM 23 q = x.AM 22 (7 * k + q) := by
  intro a
  induction a with
  | zero => intro q h; exact absurd h (by omega)
  | succ a ih =>
    intro q h
    show ((lp_X6_take_2 x k x a).setAM 23 (upd ((lp_X6_take_2 x k x a).AM 23) a ((lp_X6_take_2 x k x a).AM 22 (7 * k + a)))).AM 23 q = _
    rw [AM_eq]
    by_cases hq : q = a
    · subst hq
      rw [pk_us, AM_lp_take_2 (by decide)]
    · rw [pk_un hq]
      exact ih q (by omega)
theorem lp_take_now {x : St} {k q : Nat} (h : q < 7) : (lp_X6_take_2 x k x 7).AM 23 q = x.AM 22 (7 * k + q) := lp_take_at 7 q h
theorem lp_take_sOK {x y z : St} {n : Nat} (hs : sOK x n) (h1 : 1 ≤ nat (x.FM 4)) (hz : z.FM = x.FM) (hy : y.FM = (z.setFM 4 (nI (nat (x.FM 4) - 1))).FM) : sOK y (n + 1) := by
  obtain ⟨h2, h3⟩ := hs
  have e : y.FM 4 = nI (nat (x.FM 4) - 1) := by rw [hy]; exact FM_eq
  have hb : nat (x.FM 4) < 2 ^ 31 := by rw [show nat (x.FM 4) = (x.FM 4).toNatClampNeg from rfl]; exact Int32.toNatClampNeg_lt _
  have e2 : nat (y.FM 4) = nat (x.FM 4) - 1 := by rw [e]; exact nI_clamp (by omega)
  exact ⟨by rw [e2, e], by omega⟩
def s_X6_take (x : St) (k : Nat) : St :=
  let x1 := ((lp_X6_take_2 x k x 7)).setFM 4 (nI ((nat (x.FM 4)) - 1))
  if (((lp_X6_take_46 x k ((((lp_X6_take_2 x k x 7)).setFM 4 (nI ((nat (x.FM 4)) - 1)))) (7 * (nat (x.FM 4) - 1) - 7 * k))).AM 23 3) = ((-1 : Int32)) then
    if (((lp_X6_take_46 x k ((((lp_X6_take_2 x k x 7)).setFM 4 (nI ((nat (x.FM 4)) - 1)))) (7 * (nat (x.FM 4) - 1) - 7 * k))).AM 23 0) = (nI 4) then
      let x4 := s_X6_free ((lp_X6_take_46 x k ((((lp_X6_take_2 x k x 7)).setFM 4 (nI ((nat (x.FM 4)) - 1)))) (7 * (nat (x.FM 4) - 1) - 7 * k))) (nat (x.AM 22 (7 * k + 1)))
      x4
    else
      if (((lp_X6_take_46 x k ((((lp_X6_take_2 x k x 7)).setFM 4 (nI ((nat (x.FM 4)) - 1)))) (7 * (nat (x.FM 4) - 1) - 7 * k))).AM 19 (nat (x.AM 22 (7 * k + 1)))) = 0 then
        let x2 := s_X6_process ((lp_X6_take_46 x k ((((lp_X6_take_2 x k x 7)).setFM 4 (nI ((nat (x.FM 4)) - 1)))) (7 * (nat (x.FM 4) - 1) - 7 * k))) (nat (x.AM 22 (7 * k + 1))) (((lp_X6_take_46 x k ((((lp_X6_take_2 x k x 7)).setFM 4 (nI ((nat (x.FM 4)) - 1)))) (7 * (nat (x.FM 4) - 1) - 7 * k))).AM 23 2)
        x2
      else
        let x3 := s_X6_enqueue ((lp_X6_take_46 x k ((((lp_X6_take_2 x k x 7)).setFM 4 (nI ((nat (x.FM 4)) - 1)))) (7 * (nat (x.FM 4) - 1) - 7 * k))) (nat (x.AM 22 (7 * k + 1)))
        x3
  else
    let x5 := s_X6_receive ((lp_X6_take_46 x k ((((lp_X6_take_2 x k x 7)).setFM 4 (nI ((nat (x.FM 4)) - 1)))) (7 * (nat (x.FM 4) - 1) - 7 * k))) (nat (x.AM 22 (7 * k + 3))) (nat (x.AM 22 (7 * k + 1)))
    x5
set_option maxRecDepth 100000 in
set_option maxHeartbeats 400000 in
theorem c_X6_take (l : Launch) (E : gE) (x : St) (k : Nat) (hT : tkOK x k) : Ct l yX6_take wsX6_take { frames := 4, cells := 0, slots := 0, locals := 89 } E [.ref (aM E), .int (nI k)] x (fun v y => v = none ∧ y = s_X6_take x k) 0 0 := by
  refine Ct.of (cc := cX6_take) (nL := 3) (ret := none) (by decide) rfl (Nat.le_of_ble_eq_true rfl) ?_
  intro p e s m args below meth c h hr hk hname
  refine g_lvs (lv' := [(0, _), (1, _)]) rfl ?_
  obtain ⟨hs, hkn, hln, hto, hqs, hop⟩ := hT
  have hs2 := hs.2
  have hln2 := hln.2
  refine g_iconst (v := nI 0) h dX6_take_0 (by decide) ?_
  refine g_istore_n (lv' := [(0, _), (1, _), (2, _)]) h [1, 2, 0] dX6_take_1 rfl (by decide) rfl ?_
  have loop2 : ∀ (k2 a2 : Nat), (7) - a2 < k2 → a2 ≤ 7 → gG p l e ({ frames := 4, cells := 0, slots := 0, locals := 89 } : Room) s m args below meth c (gQ below E x s (fun v y => v = none ∧ y = s_X6_take x k) args 0 0) E x 3 0 0 ((lp_X6_take_2 x k x a2)) 2 [(0, .ref (aM E)), (1, .int (nI k)), (2, .int (nI a2))] [] := by
    intro k2
    induction k2 with
    | zero => intro a2 hk2; exact absurd hk2 (by omega)
    | succ k2 ih2 =>
      intro a2 hk2 ha2
      refine g_iload_n h 2 dX6_take_2 rfl rfl ?_
      refine g_bipush (v := nI 7) h dX6_take_3 (by decide) ?_
      refine g_icmp_geN h 31 dX6_take_5 (by decide) (by omega) (by omega) (fun c_5 => ?_) (fun c_5 => ?_)
      · skip
        obtain rfl : a2 = 7 := by omega
        refine g_aload_n h 0 dX6_take_31 rfl rfl ?_
        refine g_dup h dX6_take_32 rfl ?_
        refine g_get (C := RX6) (T := TX6) (N := 29) h 27 (wat_M E _) rfl in_X6_take_X6 (by decide) lk_X6_take_94 rfl rfl dX6_take_33 ?_
        refine g_eqi ((congrFun (FM_lp_take_2 7) 4).trans hs.1) ?_
        refine g_iconst (v := nI 1) h dX6_take_36 (by decide) ?_
        refine g_isubN h dX6_take_37 (by omega) ?_
        refine g_put (C := RX6) (T := TX6) (N := 29) h 27 tyX6 (ws_M4 E _ _) rfl in_X6_take_X6 tyX6_ok nmX6 (by decide) lk_X6_take_94 rfl rfl rfl rfl rfl (Nat.le_of_ble_eq_true rfl) dX6_take_38 ?_
        refine g_bipush (v := nI 7) h dX6_take_41 (by decide) ?_
        refine g_iload_n h 1 dX6_take_43 rfl rfl ?_
        refine g_imulN h dX6_take_44 ?_
        refine g_istore_n (lv' := [(0, _), (1, _), (2, _)]) h [1, 2, 0] dX6_take_45 rfl (by decide) rfl ?_
        have loop46 : ∀ (k46 a46 : Nat), (7 * (nat (x.FM 4) - 1) - 7 * k) - a46 < k46 → a46 ≤ 7 * (nat (x.FM 4) - 1) - 7 * k → gG p l e ({ frames := 4, cells := 0, slots := 0, locals := 89 } : Room) s m args below meth c (gQ below E x s (fun v y => v = none ∧ y = s_X6_take x k) args 0 0) E x 3 0 0 ((lp_X6_take_46 x k ((((lp_X6_take_2 x k x 7)).setFM 4 (nI ((nat (x.FM 4)) - 1)))) a46)) 46 [(0, .ref (aM E)), (1, .int (nI k)), (2, .int (nI (7 * k + a46)))] [] := by
          intro k46
          induction k46 with
          | zero => intro a46 hk46; exact absurd hk46 (by omega)
          | succ k46 ih46 =>
            intro a46 hk46 ha46
            refine g_iload_n h 2 dX6_take_46 rfl rfl ?_
            refine g_bipush (v := nI 7) h dX6_take_47 (by decide) ?_
            refine g_aload_n h 0 dX6_take_49 rfl rfl ?_
            refine g_get (C := RX6) (T := TX6) (N := 29) h 27 (wat_M E _) rfl in_X6_take_X6 (by decide) lk_X6_take_94 rfl rfl dX6_take_50 ?_
            refine g_eqi ((congrFun (FM_lp_take_46 _) 4).trans FM_eq) ?_
            refine g_imulN h dX6_take_53 ?_
            refine g_icmp_geN h 78 dX6_take_54 (by decide) (by omega) (by omega) (fun c_54 => ?_) (fun c_54 => ?_)
            · skip
              obtain rfl : a46 = 7 * (nat (x.FM 4) - 1) - 7 * k := by omega
              have T2 : ∀ q, q ≠ 22 → q ≠ 23 → ((lp_X6_take_46 x k ((((lp_X6_take_2 x k x 7)).setFM 4 (nI ((nat (x.FM 4)) - 1)))) (7 * (nat (x.FM 4) - 1) - 7 * k))).AM q = x.AM q := fun q h1 h2 => (AM_lp_take_46 h1 _).trans ((congrFun (St.AM_setFM _ _ _) q).trans (AM_lp_take_2 h2 _))
              have T1 : ∀ q, q < 7 → ((lp_X6_take_46 x k ((((lp_X6_take_2 x k x 7)).setFM 4 (nI ((nat (x.FM 4)) - 1)))) (7 * (nat (x.FM 4) - 1) - 7 * k))).AM 23 q = x.AM 22 (7 * k + q) := fun q h1 => (congrFun (AM_lp_take_46 (by decide) _) q).trans ((congrFun (congrFun (St.AM_setFM _ _ _) 23) q).trans (lp_take_now h1))
              have T3 : sOK ((lp_X6_take_46 x k ((((lp_X6_take_2 x k x 7)).setFM 4 (nI ((nat (x.FM 4)) - 1)))) (7 * (nat (x.FM 4) - 1) - 7 * k))) 51 := lp_take_sOK hs (by omega) (FM_lp_take_2 _) (FM_lp_take_46 _)
              refine g_aload_n h 0 dX6_take_78 rfl rfl ?_
              refine g_get (C := RX6) (T := TX6) (N := 29) h 28 (wat_M E _) rfl in_X6_take_X6 (by decide) lk_X6_take_80 rfl rfl dX6_take_79 ?_
              refine g_iconst (v := nI 3) h dX6_take_82 (by decide) ?_
              refine g_iald (n := 7) h (wat_Y E _ (i := 23) (by decide)) (by omega) (by decide) dX6_take_83 ?_
              refine g_iconst (v := -1) h dX6_take_84 (by decide) ?_
              refine g_icmp_eq h 107 dX6_take_85 (by decide) (fun c_85 => ?_) (fun c_85 => ?_)
              · skip
                refine g_aload_n h 0 dX6_take_107 rfl rfl ?_
                refine g_get (C := RX6) (T := TX6) (N := 29) h 28 (wat_M E _) rfl in_X6_take_X6 (by decide) lk_X6_take_80 rfl rfl dX6_take_108 ?_
                refine g_iconst (v := nI 0) h dX6_take_111 (by decide) ?_
                refine g_iald (n := 7) h (wat_Y E _ (i := 23) (by decide)) (by omega) (by decide) dX6_take_112 ?_
                refine g_iconst (v := nI 4) h dX6_take_113 (by decide) ?_
                refine g_icmp_ne h 130 dX6_take_114 (by decide) (fun c_114 => ?_) (fun c_114 => ?_)
                · skip
                  refine g_aload_n h 0 dX6_take_130 rfl rfl ?_
                  refine g_get (C := RX6) (T := TX6) (N := 29) h 21 (wat_M E _) rfl in_X6_take_X6 (by decide) lk_X6_take_68 rfl rfl dX6_take_131 ?_
                  refine g_aload_n h 0 dX6_take_134 rfl rfl ?_
                  refine g_get (C := RX6) (T := TX6) (N := 29) h 28 (wat_M E _) rfl in_X6_take_X6 (by decide) lk_X6_take_80 rfl rfl dX6_take_135 ?_
                  refine g_iconst (v := nI 1) h dX6_take_138 (by decide) ?_
                  refine g_iald (n := 7) h (wat_Y E _ (i := 23) (by decide)) (by omega) (by decide) dX6_take_139 ?_
                  refine g_eqi ((T1 1 (by decide)).trans hln.1) ?_
                  refine g_zald (n := 16) h (wat_Y E _ (i := 19) (by decide)) (by omega) (by decide) dX6_take_140 ?_
                  refine g_if_eq h 157 dX6_take_141 (by decide) (fun c_141 => ?_) (fun c_141 => ?_)
                  · skip
                    refine g_aload_n h 0 dX6_take_157 rfl rfl ?_
                    refine g_aload_n h 0 dX6_take_158 rfl rfl ?_
                    refine g_get (C := RX6) (T := TX6) (N := 29) h 28 (wat_M E _) rfl in_X6_take_X6 (by decide) lk_X6_take_80 rfl rfl dX6_take_159 ?_
                    refine g_iconst (v := nI 1) h dX6_take_162 (by decide) ?_
                    refine g_iald (n := 7) h (wat_Y E _ (i := 23) (by decide)) (by omega) (by decide) dX6_take_163 ?_
                    refine g_eqi ((T1 1 (by decide)).trans hln.1) ?_
                    refine g_aload_n h 0 dX6_take_164 rfl rfl ?_
                    refine g_get (C := RX6) (T := TX6) (N := 29) h 28 (wat_M E _) rfl in_X6_take_X6 (by decide) lk_X6_take_80 rfl rfl dX6_take_165 ?_
                    refine g_iconst (v := nI 2) h dX6_take_168 (by decide) ?_
                    refine g_iald (n := 7) h (wat_Y E _ (i := 23) (by decide)) (by omega) (by decide) dX6_take_169 ?_
                    refine g_callV (As := [.int (nI (nat (x.AM 22 (7 * k + 1)))), .int _]) (C := RX6) h 2 (c_X6_process l E _ (nat (x.AM 22 (7 * k + 1))) _ (by omega) (sOK.mono T3 (by omega))) rfl gX6_take_X6_process rfl rfl rfl rfl (by decide +kernel) ⟨Nat.le_of_ble_eq_true rfl, Nat.le_of_ble_eq_true rfl⟩ (wat_M E _) rfl rfl dX6_take_170 ⟨Nat.le_refl _, Nat.le_refl _⟩ (Nat.le_of_ble_eq_true rfl) ?_
                    rintro _ _ ⟨rfl, hy⟩
                    obtain rfl := hy.symm
                    dsimp only [Option.toList, List.cons_append, List.nil_append]
                    exact g_vret h hr hk dX6_take_173 (Nat.zero_le _) (Nat.zero_le _) ⟨rfl, Eq.symm (Eq.trans (if_pos c_85) (Eq.trans (if_neg c_114) (if_pos c_141)))⟩
                  · skip
                    refine g_aload_n h 0 dX6_take_144 rfl rfl ?_
                    refine g_aload_n h 0 dX6_take_145 rfl rfl ?_
                    refine g_get (C := RX6) (T := TX6) (N := 29) h 28 (wat_M E _) rfl in_X6_take_X6 (by decide) lk_X6_take_80 rfl rfl dX6_take_146 ?_
                    refine g_iconst (v := nI 1) h dX6_take_149 (by decide) ?_
                    refine g_iald (n := 7) h (wat_Y E _ (i := 23) (by decide)) (by omega) (by decide) dX6_take_150 ?_
                    refine g_eqi ((T1 1 (by decide)).trans hln.1) ?_
                    refine g_callV (As := [.int (nI (nat (x.AM 22 (7 * k + 1))))]) (C := RX6) h 1 (c_X6_enqueue l E _ (nat (x.AM 22 (7 * k + 1))) (by omega) (by rw [T2 21 (by decide) (by decide)]; exact ⟨(hqs _ (by omega)).1, by have := (hqs _ hln2).2; omega⟩)) rfl gX6_take_X6_enqueue rfl rfl rfl rfl (by decide +kernel) ⟨Nat.le_of_ble_eq_true rfl, Nat.le_of_ble_eq_true rfl⟩ (wat_M E _) rfl rfl dX6_take_151 ⟨Nat.le_refl _, Nat.le_refl _⟩ (Nat.le_of_ble_eq_true rfl) ?_
                    rintro _ _ ⟨rfl, hy⟩
                    obtain rfl := hy.symm
                    dsimp only [Option.toList, List.cons_append, List.nil_append]
                    refine g_goto h 173 dX6_take_154 (by decide) ?_
                    exact g_vret h hr hk dX6_take_173 (Nat.zero_le _) (Nat.zero_le _) ⟨rfl, Eq.symm (Eq.trans (if_pos c_85) (Eq.trans (if_neg c_114) (if_neg c_141)))⟩
                · skip
                  refine g_aload_n h 0 dX6_take_117 rfl rfl ?_
                  refine g_aload_n h 0 dX6_take_118 rfl rfl ?_
                  refine g_get (C := RX6) (T := TX6) (N := 29) h 28 (wat_M E _) rfl in_X6_take_X6 (by decide) lk_X6_take_80 rfl rfl dX6_take_119 ?_
                  refine g_iconst (v := nI 1) h dX6_take_122 (by decide) ?_
                  refine g_iald (n := 7) h (wat_Y E _ (i := 23) (by decide)) (by omega) (by decide) dX6_take_123 ?_
                  refine g_eqi ((T1 1 (by decide)).trans hln.1) ?_
                  refine g_callV (As := [.int (nI (nat (x.AM 22 (7 * k + 1))))]) (C := RX6) h 1 (c_X6_free l E _ (nat (x.AM 22 (7 * k + 1))) (by omega) (by rw [T2 21 (by decide) (by decide)]; exact ⟨(hqs _ (by omega)).1, by have := (hqs _ hln2).2; omega⟩) (by rw [T2 21 (by decide) (by decide)]; exact T3.mono (by have := (hqs _ hln2).2; omega))) rfl gX6_take_X6_free rfl rfl rfl rfl (by decide +kernel) ⟨Nat.le_of_ble_eq_true rfl, Nat.le_of_ble_eq_true rfl⟩ (wat_M E _) rfl rfl dX6_take_124 ⟨Nat.le_refl _, Nat.le_refl _⟩ (Nat.le_of_ble_eq_true rfl) ?_
                  rintro _ _ ⟨rfl, hy⟩
                  obtain rfl := hy.symm
                  dsimp only [Option.toList, List.cons_append, List.nil_append]
                  refine g_goto h 173 dX6_take_127 (by decide) ?_
                  exact g_vret h hr hk dX6_take_173 (Nat.zero_le _) (Nat.zero_le _) ⟨rfl, Eq.symm (Eq.trans (if_pos c_85) (if_pos c_114))⟩
              · skip
                refine g_aload_n h 0 dX6_take_88 rfl rfl ?_
                refine g_aload_n h 0 dX6_take_89 rfl rfl ?_
                refine g_get (C := RX6) (T := TX6) (N := 29) h 28 (wat_M E _) rfl in_X6_take_X6 (by decide) lk_X6_take_80 rfl rfl dX6_take_90 ?_
                refine g_iconst (v := nI 3) h dX6_take_93 (by decide) ?_
                refine g_iald (n := 7) h (wat_Y E _ (i := 23) (by decide)) (by omega) (by decide) dX6_take_94 ?_
                have hto2 := hto.resolve_left (fun q => c_85 ((T1 3 (by decide)).trans q))
                have hto3 := hto2.2
                refine g_eqi ((T1 3 (by decide)).trans hto2.1) ?_
                refine g_aload_n h 0 dX6_take_95 rfl rfl ?_
                refine g_get (C := RX6) (T := TX6) (N := 29) h 28 (wat_M E _) rfl in_X6_take_X6 (by decide) lk_X6_take_80 rfl rfl dX6_take_96 ?_
                refine g_iconst (v := nI 1) h dX6_take_99 (by decide) ?_
                refine g_iald (n := 7) h (wat_Y E _ (i := 23) (by decide)) (by omega) (by decide) dX6_take_100 ?_
                refine g_eqi ((T1 1 (by decide)).trans hln.1) ?_
                have c_85x : ¬ x.AM 22 (7 * k + 3) = (-1 : Int32) := fun q => c_85 ((T1 3 (by decide)).trans q)
                refine g_callV (As := [.int (nI (nat (x.AM 22 (7 * k + 3)))), .int (nI (nat (x.AM 22 (7 * k + 1))))]) (C := RX6) h 2 (c_X6_receive l E _ (nat (x.AM 22 (7 * k + 3))) (nat (x.AM 22 (7 * k + 1))) (by omega) (by omega) (T3.mono (by omega)) (by rw [T2 9 (by decide) (by decide), T1 0 (by decide)]; intro z; exact hop c_85x z)) rfl gX6_take_X6_receive rfl rfl rfl rfl (by decide +kernel) ⟨Nat.le_of_ble_eq_true rfl, Nat.le_of_ble_eq_true rfl⟩ (wat_M E _) rfl rfl dX6_take_101 ⟨Nat.le_refl _, Nat.le_refl _⟩ (Nat.le_of_ble_eq_true rfl) ?_
                rintro _ _ ⟨rfl, hy⟩
                obtain rfl := hy.symm
                dsimp only [Option.toList, List.cons_append, List.nil_append]
                refine g_goto h 173 dX6_take_104 (by decide) ?_
                exact g_vret h hr hk dX6_take_173 (Nat.zero_le _) (Nat.zero_le _) ⟨rfl, Eq.symm (if_neg c_85)⟩
            · skip
              have hlt_54 : a46 < 7 * (nat (x.FM 4) - 1) - 7 * k := by omega
              refine g_aload_n h 0 dX6_take_57 rfl rfl ?_
              refine g_get (C := RX6) (T := TX6) (N := 29) h 26 (wat_M E _) rfl in_X6_take_X6 (by decide) lk_X6_take_77 rfl rfl dX6_take_58 ?_
              refine g_iload_n h 2 dX6_take_61 rfl rfl ?_
              refine g_aload_n h 0 dX6_take_62 rfl rfl ?_
              refine g_get (C := RX6) (T := TX6) (N := 29) h 26 (wat_M E _) rfl in_X6_take_X6 (by decide) lk_X6_take_77 rfl rfl dX6_take_63 ?_
              refine g_iload_n h 2 dX6_take_66 rfl rfl ?_
              refine g_bipush (v := nI 7) h dX6_take_67 (by decide) ?_
              refine g_iaddN h dX6_take_69 ?_
              refine g_iald (n := 2800) h (wat_Y E _ (i := 22) (by decide)) (by omega) (by decide) dX6_take_70 ?_
              refine g_iast (n := 2800) h (ws_Y E _ (i := 22) (by decide) _) (by omega) (by decide) dX6_take_71 ?_
              refine g_iinc (lv' := [(0, _), (1, _), (2, .int (nI (7 * k + a46 + 1)))]) h 2 [1, 2, 0] dX6_take_72 rfl (nI_add _ 1) (by decide) rfl ?_
              refine g_goto h 46 dX6_take_75 (by decide) ?_
              have hb46 : lp_X6_take_46 x k ((((lp_X6_take_2 x k x 7)).setFM 4 (nI ((nat (x.FM 4)) - 1)))) (a46 + 1) = (((lp_X6_take_46 x k ((((lp_X6_take_2 x k x 7)).setFM 4 (nI ((nat (x.FM 4)) - 1)))) a46)).setAM 22 (upd (((lp_X6_take_46 x k ((((lp_X6_take_2 x k x 7)).setFM 4 (nI ((nat (x.FM 4)) - 1)))) a46)).AM 22) (7 * k + a46) (((lp_X6_take_46 x k ((((lp_X6_take_2 x k x 7)).setFM 4 (nI ((nat (x.FM 4)) - 1)))) a46)).AM 22 ((7 * k + a46) + 7)))) := rfl
              refine g_x (y := (lp_X6_take_46 x k ((((lp_X6_take_2 x k x 7)).setFM 4 (nI ((nat (x.FM 4)) - 1)))) (a46 + 1))) (by rw [hb46]) ?_
              exact ih46 (a46 + 1) (by omega) (by omega)
        exact loop46 (7 * (nat (x.FM 4) - 1) - 7 * k + 1) 0 (by omega) (by omega)
      · skip
        have hlt_5 : a2 < 7 := by omega
        refine g_aload_n h 0 dX6_take_8 rfl rfl ?_
        refine g_get (C := RX6) (T := TX6) (N := 29) h 28 (wat_M E _) rfl in_X6_take_X6 (by decide) lk_X6_take_80 rfl rfl dX6_take_9 ?_
        refine g_iload_n h 2 dX6_take_12 rfl rfl ?_
        refine g_aload_n h 0 dX6_take_13 rfl rfl ?_
        refine g_get (C := RX6) (T := TX6) (N := 29) h 26 (wat_M E _) rfl in_X6_take_X6 (by decide) lk_X6_take_77 rfl rfl dX6_take_14 ?_
        refine g_bipush (v := nI 7) h dX6_take_17 (by decide) ?_
        refine g_iload_n h 1 dX6_take_19 rfl rfl ?_
        refine g_imulN h dX6_take_20 ?_
        refine g_iload_n h 2 dX6_take_21 rfl rfl ?_
        refine g_iaddN h dX6_take_22 ?_
        refine g_iald (n := 2800) h (wat_Y E _ (i := 22) (by decide)) (by omega) (by decide) dX6_take_23 ?_
        refine g_iast (n := 7) h (ws_Y E _ (i := 23) (by decide) _) (by omega) (by decide) dX6_take_24 ?_
        refine g_iinc (lv' := [(0, _), (1, _), (2, .int (nI (a2 + 1)))]) h 2 [1, 2, 0] dX6_take_25 rfl (nI_add _ 1) (by decide) rfl ?_
        refine g_goto h 2 dX6_take_28 (by decide) ?_
        have hb2 : lp_X6_take_2 x k x (a2 + 1) = (((lp_X6_take_2 x k x a2)).setAM 23 (upd (((lp_X6_take_2 x k x a2)).AM 23) a2 (((lp_X6_take_2 x k x a2)).AM 22 ((7 * k) + a2)))) := rfl
        refine g_x (y := (lp_X6_take_2 x k x (a2 + 1))) (by rw [hb2]) ?_
        exact ih2 (a2 + 1) (by omega) (by omega)
  exact loop2 (7 + 1) 0 (by omega) (by omega)
theorem in_X6_deliver_X6 : ∀ w ∈ wsX60, w ∈ wsX6_deliver := by decide +kernel
theorem lk_X6_deliver_83 : Cond.fieldLink RX6 83 "CacheDirectoryModel" "thrown" "I" ∈ wsX6_deliver := by decide +kernel
theorem lk_X6_deliver_94 : Cond.fieldLink RX6 94 "CacheDirectoryModel" "sent" "I" ∈ wsX6_deliver := by decide +kernel
def r_X6_deliver_ok (x : St) (k : Nat) : Int32 :=
  let x1 := x.setFM 0 (nI 0)
  let x2 := s_X6_take x1 k
  x2.FM 4
def s_X6_deliver_ok (x : St) (k : Nat) : St :=
  let x1 := x.setFM 0 (nI 0)
  let x2 := s_X6_take x1 k
  x2
set_option maxRecDepth 100000 in
set_option maxHeartbeats 400000 in
theorem c_X6_deliver_ok (l : Launch) (E : gE) (x : St) (k : Nat) (hT : tkOK x k) : Ct l yX6_deliver wsX6_deliver { frames := 5, cells := 0, slots := 0, locals := 111 } E [.ref (aM E), .int (nI k)] x (fun v y => v = some (.int (r_X6_deliver_ok x k)) ∧ y = s_X6_deliver_ok x k) 0 0 := by
  refine Ct.of (cc := cX6_deliver) (nL := 2) (ret := (some .int)) (by decide) rfl (Nat.le_of_ble_eq_true rfl) ?_
  intro p e s m args below meth c h hr hk hname
  refine g_lvs (lv' := [(0, _), (1, _)]) rfl ?_
  obtain ⟨hs, hkn, hT2⟩ := id hT
  refine g_aload_n h 0 dX6_deliver_0 rfl rfl ?_
  refine g_iconst (v := nI 0) h dX6_deliver_1 (by decide) ?_
  refine g_put (C := RX6) (T := TX6) (N := 29) h 0 tyX6 (ws_M0 E _ _) rfl in_X6_deliver_X6 tyX6_ok nmX6 (by decide) lk_X6_deliver_83 rfl rfl rfl rfl rfl (Nat.le_of_ble_eq_true rfl) dX6_deliver_2 ?_
  refine g_aload_n h 0 dX6_deliver_5 rfl rfl ?_
  refine g_iload_n h 1 dX6_deliver_6 rfl rfl ?_
  refine g_callV (As := [.int (nI k)]) (C := RX6) h 1 (c_X6_isMessage_t l E _ k (sOK_FM (by decide) (sOK.mono hs (by omega))) (by rw [FM4_0]; omega)) rfl gX6_deliver_X6_isMessage rfl rfl rfl rfl (by decide +kernel) ⟨Nat.le_of_ble_eq_true rfl, Nat.le_of_ble_eq_true rfl⟩ (wat_M E _) rfl rfl dX6_deliver_7 ⟨Nat.le_refl _, Nat.le_refl _⟩ (Nat.le_of_ble_eq_true rfl) ?_
  rintro _ _ ⟨rfl, hy⟩
  obtain rfl := hy.symm
  dsimp only [Option.toList, List.cons_append, List.nil_append]
  refine g_if_ne h 19 dX6_deliver_10 (by decide) (fun c_10 => ?_) (fun c_10 => absurd c_10 (by decide))
  refine g_aload_n h 0 dX6_deliver_19 rfl rfl ?_
  refine g_iload_n h 1 dX6_deliver_20 rfl rfl ?_
  refine g_callV (As := [.int (nI k)]) (C := RX6) h 1 (c_X6_take l E _ k (tkOK_FM hT)) rfl gX6_deliver_X6_take rfl rfl rfl rfl (by decide +kernel) ⟨Nat.le_of_ble_eq_true rfl, Nat.le_of_ble_eq_true rfl⟩ (wat_M E _) rfl rfl dX6_deliver_21 ⟨Nat.le_refl _, Nat.le_refl _⟩ (Nat.le_of_ble_eq_true rfl) ?_
  rintro _ _ ⟨rfl, hy⟩
  obtain rfl := hy.symm
  dsimp only [Option.toList, List.cons_append, List.nil_append]
  refine g_aload_n h 0 dX6_deliver_24 rfl rfl ?_
  refine g_get (C := RX6) (T := TX6) (N := 29) h 27 (wat_M E _) rfl in_X6_deliver_X6 (by decide) lk_X6_deliver_94 rfl rfl dX6_deliver_25 ?_
  exact g_iret h hr hk dX6_deliver_28 (Nat.zero_le _) (Nat.zero_le _) ⟨congrArg (fun z => some (Value.int z)) (Eq.symm rfl), Eq.symm rfl⟩
def s_X6_deliver_no (x : St) (a : Int32) : St :=
  let x1 := x.setFM 0 (nI 0)
  let x2 := s_X6_fail x1 (nI 1)
  x2
set_option maxRecDepth 100000 in
set_option maxHeartbeats 400000 in
theorem c_X6_deliver_no (l : Launch) (E : gE) (x : St) (a : Int32) (ha : badM x a) : Ct l yX6_deliver wsX6_deliver { frames := 5, cells := 0, slots := 0, locals := 111 } E [.ref (aM E), .int a] x (fun v y => v = some (.int (nI 0)) ∧ y = s_X6_deliver_no x a) 0 0 := by
  refine Ct.of (cc := cX6_deliver) (nL := 2) (ret := (some .int)) (by decide) rfl (Nat.le_of_ble_eq_true rfl) ?_
  intro p e s m args below meth c h hr hk hname
  refine g_lvs (lv' := [(0, _), (1, _)]) rfl ?_
  refine g_aload_n h 0 dX6_deliver_0 rfl rfl ?_
  refine g_iconst (v := nI 0) h dX6_deliver_1 (by decide) ?_
  refine g_put (C := RX6) (T := TX6) (N := 29) h 0 tyX6 (ws_M0 E _ _) rfl in_X6_deliver_X6 tyX6_ok nmX6 (by decide) lk_X6_deliver_83 rfl rfl rfl rfl rfl (Nat.le_of_ble_eq_true rfl) dX6_deliver_2 ?_
  refine g_aload_n h 0 dX6_deliver_5 rfl rfl ?_
  refine g_iload_n h 1 dX6_deliver_6 rfl rfl ?_
  refine g_callV (As := [.int _]) (C := RX6) h 1 (c_X6_isMessage_f l E _ _ (by unfold badM; rw [FM4_0]; exact ha)) rfl gX6_deliver_X6_isMessage rfl rfl rfl rfl (by decide +kernel) ⟨Nat.le_of_ble_eq_true rfl, Nat.le_of_ble_eq_true rfl⟩ (wat_M E _) rfl rfl dX6_deliver_7 ⟨Nat.le_refl _, Nat.le_refl _⟩ (Nat.le_of_ble_eq_true rfl) ?_
  rintro _ _ ⟨rfl, hy⟩
  obtain rfl := hy.symm
  dsimp only [Option.toList, List.cons_append, List.nil_append]
  refine g_if_ne h 19 dX6_deliver_10 (by decide) (fun c_10 => absurd c_10 (by decide)) (fun c_10 => ?_)
  refine g_aload_n h 0 dX6_deliver_13 rfl rfl ?_
  refine g_iconst (v := nI 1) h dX6_deliver_14 (by decide) ?_
  refine g_callV (As := [.int (nI 1)]) (C := RX6) h 1 (c_X6_fail l E _ 1) rfl gX6_deliver_X6_fail rfl rfl rfl rfl (by decide +kernel) ⟨Nat.le_of_ble_eq_true rfl, Nat.le_of_ble_eq_true rfl⟩ (wat_M E _) rfl rfl dX6_deliver_15 ⟨Nat.le_refl _, Nat.le_refl _⟩ (Nat.le_of_ble_eq_true rfl) ?_
  rintro _ _ ⟨rfl, hy⟩
  obtain rfl := hy.symm
  dsimp only [Option.toList, List.cons_append, List.nil_append]
  exact g_iret h hr hk dX6_deliver_18 (Nat.zero_le _) (Nat.zero_le _) ⟨rfl, Eq.symm rfl⟩
/-- what a run of takings of the first message keeps -/
def stOK (H : St → Prop) : Prop := ∀ y, H y → y.FM 4 = nI (nat (y.FM 4)) ∧ (0 < nat (y.FM 4) → tkOK y 0 ∧ H (s_X6_take y 0))
theorem stOK_pos {H : St → Prop} (h : stOK H) {y : St} (hy : H y) (hc : ¬ y.FM 4 ≤ 0) : tkOK y 0 ∧ H (s_X6_take y 0) := by
  obtain ⟨h1, h2⟩ := h y hy
  refine h2 (Nat.pos_of_ne_zero fun q => hc ?_)
  rw [h1, q]
  decide
theorem in_X6_settle_X6 : ∀ w ∈ wsX60, w ∈ wsX6_settle := by decide +kernel
theorem lk_X6_settle_83 : Cond.fieldLink RX6 83 "CacheDirectoryModel" "thrown" "I" ∈ wsX6_settle := by decide +kernel
theorem lk_X6_settle_94 : Cond.fieldLink RX6 94 "CacheDirectoryModel" "sent" "I" ∈ wsX6_settle := by decide +kernel
def lq_X6_settle_ok_24 (x : St) (k : Nat) : Nat → Nat → St → Nat × St
  | 0, a24, y =>
    (a24, y)

  | n24 + 1, a24, y =>
    if (y.FM 4) ≤ 0 then
      (a24, y)
    else
      let x2 := s_X6_take y 0
      lq_X6_settle_ok_24 x k n24 (a24 + 1) ((s_X6_take y 0))
def r_X6_settle_ok (x : St) (k : Nat) : Nat :=
  let x1 := x.setFM 0 (nI 0)
  (lq_X6_settle_ok_24 x k k 0 ((x.setFM 0 (nI 0)))).1
def s_X6_settle_ok (x : St) (k : Nat) : St :=
  let x1 := x.setFM 0 (nI 0)
  (lq_X6_settle_ok_24 x k k 0 ((x.setFM 0 (nI 0)))).2
set_option maxRecDepth 100000 in
set_option maxHeartbeats 400000 in
theorem c_X6_settle_ok (l : Launch) (E : gE) (x : St) (k : Nat) (H : St → Prop) (hk2 : k ≤ 1000) (hH : stOK H) (h0 : H (x.setFM 0 (nI 0))) : Ct l yX6_settle wsX6_settle { frames := 5, cells := 0, slots := 0, locals := 111 } E [.ref (aM E), .int (nI k)] x (fun v y => v = some (.int (nI (r_X6_settle_ok x k))) ∧ y = s_X6_settle_ok x k) 0 0 := by
  refine Ct.of (cc := cX6_settle) (nL := 3) (ret := (some .int)) (by decide) rfl (Nat.le_of_ble_eq_true rfl) ?_
  intro p e s m args below meth c h hr hk hname
  refine g_lvs (lv' := [(0, _), (1, _)]) rfl ?_
  refine g_aload_n h 0 dX6_settle_0 rfl rfl ?_
  refine g_iconst (v := nI 0) h dX6_settle_1 (by decide) ?_
  refine g_put (C := RX6) (T := TX6) (N := 29) h 0 tyX6 (ws_M0 E _ _) rfl in_X6_settle_X6 tyX6_ok nmX6 (by decide) lk_X6_settle_83 rfl rfl rfl rfl rfl (Nat.le_of_ble_eq_true rfl) dX6_settle_2 ?_
  refine g_iload_n h 1 dX6_settle_5 rfl rfl ?_
  refine g_if_lt h 16 dX6_settle_6 (by decide) (fun c_6 => absurd c_6 (nI_pos (by omega))) (fun c_6 => ?_)
  refine g_iload_n h 1 dX6_settle_9 rfl rfl ?_
  refine g_sipush (v := nI 1000) h dX6_settle_10 (by decide) ?_
  refine g_icmp_leN h 22 dX6_settle_13 (by decide) (by omega) (by omega) (fun c_13 => ?_) (fun c_13 => absurd c_13 (by omega))
  refine g_iconst (v := nI 0) h dX6_settle_22 (by decide) ?_
  refine g_istore_n (lv' := [(0, _), (1, _), (2, _)]) h [1, 2, 0] dX6_settle_23 rfl (by decide) rfl ?_
  have loop24 : ∀ (k24 a24 n24 : Nat) (y : St), n24 < k24 → a24 + n24 = k → lq_X6_settle_ok_24 x k n24 a24 y = lq_X6_settle_ok_24 x k k 0 ((x.setFM 0 (nI 0))) → H y → gG p l e ({ frames := 5, cells := 0, slots := 0, locals := 111 } : Room) s m args below meth c (gQ below E x s (fun v y => v = some (.int (nI (r_X6_settle_ok x k))) ∧ y = s_X6_settle_ok x k) args 0 0) E x 3 0 0 y 24 [(0, .ref (aM E)), (1, .int (nI k)), (2, .int (nI a24))] [] := by
    intro k24
    induction k24 with
    | zero => intro a24 n24 y hk24; exact absurd hk24 (by omega)
    | succ k24 ih24 =>
      intro a24 n24 y hk24 ha24 hq24 hi24
      refine g_iload_n h 2 dX6_settle_24 rfl rfl ?_
      refine g_iload_n h 1 dX6_settle_25 rfl rfl ?_
      refine g_icmp_geN h 47 dX6_settle_26 (by decide) (by omega) (by omega) (fun c_26 => ?_) (fun c_26 => ?_)
      · skip
        obtain rfl : n24 = 0 := by omega
        refine g_iload_n h 2 dX6_settle_47 rfl rfl ?_
        exact g_iret h hr hk dX6_settle_48 (Nat.zero_le _) (Nat.zero_le _) ⟨congrArg (fun z => some (Value.int (nI z))) (Eq.trans (congrArg Prod.fst (Eq.trans (Eq.symm rfl) hq24)) (Eq.symm rfl)), (Eq.trans (congrArg Prod.snd (Eq.trans (Eq.symm rfl) hq24)) (Eq.symm rfl))⟩
      · skip
        obtain ⟨n24, rfl⟩ : ∃ q, n24 = q + 1 := ⟨n24 - 1, by omega⟩
        refine g_aload_n h 0 dX6_settle_29 rfl rfl ?_
        refine g_get (C := RX6) (T := TX6) (N := 29) h 27 (wat_M E _) rfl in_X6_settle_X6 (by decide) lk_X6_settle_94 rfl rfl dX6_settle_30 ?_
        refine g_if_le h 47 dX6_settle_33 (by decide) (fun c_33 => ?_) (fun c_33 => ?_)
        · skip
          refine g_iload_n h 2 dX6_settle_47 rfl rfl ?_
          exact g_iret h hr hk dX6_settle_48 (Nat.zero_le _) (Nat.zero_le _) ⟨congrArg (fun z => some (Value.int (nI z))) (Eq.trans (congrArg Prod.fst (Eq.trans (Eq.symm (if_pos c_33)) hq24)) (Eq.symm rfl)), (Eq.trans (congrArg Prod.snd (Eq.trans (Eq.symm (if_pos c_33)) hq24)) (Eq.symm rfl))⟩
        · skip
          refine g_aload_n h 0 dX6_settle_36 rfl rfl ?_
          refine g_iconst (v := nI 0) h dX6_settle_37 (by decide) ?_
          refine g_callV (As := [.int (nI 0)]) (C := RX6) h 1 (c_X6_take l E _ 0 (stOK_pos hH hi24 c_33).1) rfl gX6_settle_X6_take rfl rfl rfl rfl (by decide +kernel) ⟨Nat.le_of_ble_eq_true rfl, Nat.le_of_ble_eq_true rfl⟩ (wat_M E _) rfl rfl dX6_settle_38 ⟨Nat.le_refl _, Nat.le_refl _⟩ (Nat.le_of_ble_eq_true rfl) ?_
          rintro _ _ ⟨rfl, hy⟩
          obtain rfl := hy.symm
          dsimp only [Option.toList, List.cons_append, List.nil_append]
          refine g_iinc (lv' := [(0, _), (1, _), (2, .int (nI (a24 + 1)))]) h 2 [1, 2, 0] dX6_settle_41 rfl (nI_add _ 1) (by decide) rfl ?_
          refine g_goto h 24 dX6_settle_44 (by decide) ?_
          exact ih24 (a24 + 1) n24 _ (by omega) (by omega) (Eq.trans (Eq.symm (if_neg c_33)) hq24) ((stOK_pos hH hi24 c_33).2)
  exact loop24 (k + 1) 0 k ((x.setFM 0 (nI 0))) (by omega) (by omega) rfl (h0)
def s_X6_settle_no (x : St) (a : Int32) : St :=
  let x1 := x.setFM 0 (nI 0)
  if a < 0 then
    let x2 := s_X6_fail x1 (nI 1)
    x2
  else
    let x3 := s_X6_fail x1 (nI 1)
    x3
set_option maxRecDepth 100000 in
set_option maxHeartbeats 400000 in
theorem c_X6_settle_no (l : Launch) (E : gE) (x : St) (a : Int32) (ha : a < 0 ∨ nI 1000 < a) : Ct l yX6_settle wsX6_settle { frames := 5, cells := 0, slots := 0, locals := 111 } E [.ref (aM E), .int a] x (fun v y => v = some (.int (nI 0)) ∧ y = s_X6_settle_no x a) 0 0 := by
  refine Ct.of (cc := cX6_settle) (nL := 3) (ret := (some .int)) (by decide) rfl (Nat.le_of_ble_eq_true rfl) ?_
  intro p e s m args below meth c h hr hk hname
  refine g_lvs (lv' := [(0, _), (1, _)]) rfl ?_
  refine g_aload_n h 0 dX6_settle_0 rfl rfl ?_
  refine g_iconst (v := nI 0) h dX6_settle_1 (by decide) ?_
  refine g_put (C := RX6) (T := TX6) (N := 29) h 0 tyX6 (ws_M0 E _ _) rfl in_X6_settle_X6 tyX6_ok nmX6 (by decide) lk_X6_settle_83 rfl rfl rfl rfl rfl (Nat.le_of_ble_eq_true rfl) dX6_settle_2 ?_
  refine g_iload_n h 1 dX6_settle_5 rfl rfl ?_
  refine g_if_lt h 16 dX6_settle_6 (by decide) (fun c_6 => ?_) (fun c_6 => ?_)
  · skip
    refine g_aload_n h 0 dX6_settle_16 rfl rfl ?_
    refine g_iconst (v := nI 1) h dX6_settle_17 (by decide) ?_
    refine g_callV (As := [.int (nI 1)]) (C := RX6) h 1 (c_X6_fail l E _ 1) rfl gX6_settle_X6_fail rfl rfl rfl rfl (by decide +kernel) ⟨Nat.le_of_ble_eq_true rfl, Nat.le_of_ble_eq_true rfl⟩ (wat_M E _) rfl rfl dX6_settle_18 ⟨Nat.le_refl _, Nat.le_refl _⟩ (Nat.le_of_ble_eq_true rfl) ?_
    rintro _ _ ⟨rfl, hy⟩
    obtain rfl := hy.symm
    dsimp only [Option.toList, List.cons_append, List.nil_append]
    exact g_iret h hr hk dX6_settle_21 (Nat.zero_le _) (Nat.zero_le _) ⟨rfl, Eq.symm (if_pos c_6)⟩
  · skip
    refine g_iload_n h 1 dX6_settle_9 rfl rfl ?_
    refine g_sipush (v := nI 1000) h dX6_settle_10 (by decide) ?_
    refine g_icmp_le h 22 dX6_settle_13 (by decide) (fun c_13 => absurd c_13 (Int32.not_le.mpr (ha.resolve_left c_6))) (fun c_13 => ?_)
    refine g_aload_n h 0 dX6_settle_16 rfl rfl ?_
    refine g_iconst (v := nI 1) h dX6_settle_17 (by decide) ?_
    refine g_callV (As := [.int (nI 1)]) (C := RX6) h 1 (c_X6_fail l E _ 1) rfl gX6_settle_X6_fail rfl rfl rfl rfl (by decide +kernel) ⟨Nat.le_of_ble_eq_true rfl, Nat.le_of_ble_eq_true rfl⟩ (wat_M E _) rfl rfl dX6_settle_18 ⟨Nat.le_refl _, Nat.le_refl _⟩ (Nat.le_of_ble_eq_true rfl) ?_
    rintro _ _ ⟨rfl, hy⟩
    obtain rfl := hy.symm
    dsimp only [Option.toList, List.cons_append, List.nil_append]
    exact g_iret h hr hk dX6_settle_21 (Nat.zero_le _) (Nat.zero_le _) ⟨rfl, Eq.symm (if_neg c_6)⟩
