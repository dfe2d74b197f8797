/-! ===== class and model side by side: GET_SHARED and GET_MODIFIED at a home ===== -/
def mRd (x : St) (j : Nat) (a : Int32) : St :=
  let x1 := x.setAM 19 (upd (x.AM 19) j (vp_nar .boolean (nI 1)))
  let x12 := x1.setAM 18 (upd (x1.AM 18) j ((x1.AM 18 j) ||| ((nI 1) <<< (a &&& 31))))
  x12
theorem mRd_acc {x : St} {j : Nat} {a : Int32} : (∀ r, r ≠ 18 → r ≠ 19 → (mRd x j a).AM r = x.AM r) ∧ (mRd x j a).AM 18 = upd (x.AM 18) j ((x.AM 18 j) ||| ((nI 1) <<< (a &&& 31))) ∧ (mRd x j a).AM 19 = upd (x.AM 19) j (vp_nar .boolean (nI 1)) ∧ (mRd x j a).FM = x.FM := by
  have e : mRd x j a = (x.setAM 19 (upd (x.AM 19) j (vp_nar .boolean (nI 1)))).setAM 18 (upd (x.AM 18) j ((x.AM 18 j) ||| ((nI 1) <<< (a &&& 31)))) := by
    unfold mRd
    simp only [AM_ne, ne_eq, Nat.reduceEqDiff, not_false_eq_true]
  rw [e]
  refine ⟨fun r h1 h2 => by rw [AM_ne h1, AM_ne h2], AM_eq, ?_, rfl⟩
  rw [AM_ne (by decide), AM_eq]
section PROC
variable {v : Vw} {x y A : St} {R K S V W : Nat → Nat → Int} {O : Nat → List Nat} {H : Nat → Nat → Int} {q : Nat → List M7} {i j T c : Nat} {m : M7} {b r : Int32}
/-- GET_SHARED -/
theorem getS_sim (hc : CE v A R K S V W O H q) (hI : InvC R K S V W O H (m :: allq q)) (hM : MR x T R K S V W O H q) (hP : PLQ q) (hj : j < 16) (hk : kd m = 1) (hl : ln m = (j : Int)) (hb : H j 6 = 0) (hrow : mrow (x.AM 23) m) : ∃ H' q', CE (s_X1_process v j m) A R K S V W O H' q' ∧ InvC R K S V W O H' (allq q') ∧ MR (s_X6_process x j (x.AM 23 2)) T R K S V W O H' q' ∧ PLQ q' ∧ (∀ k, k ≠ 16 → q' k = q k) := by
  have hlw := way_len hI
  obtain ⟨w0, w1, w2', w3, w4, w5, w6⟩ := hrow
  have hwf := hI.1 m List.mem_cons_self
  have h0 : m 0 = nI 1 := i32_eq.mpr hk
  obtain ⟨c, hf⟩ : ∃ c : Nat, fr m = (c : Int) := ⟨(fr m).toNat, by unfold wfm at hwf; omega⟩
  have hc4 : c < 4 := by unfold wfm at hwf; omega
  have e2 : m 2 = nI c := i32_eq.mpr (by rw [nI_toInt (by omega)]; exact hf)
  have g9 := hI.2.2.2.2.2.2.2.2.2.1 j hj
  have hsh : (v.x.FH j 5).toInt = H j 5 := hc.gH j 5
  have hx17 : x.AM 17 j = v.x.FH j 4 := i32_eq.mpr (by rw [(hM.2.2.2.2.1 j hj).2.1, hc.gH])
  have hx18 : x.AM 18 j = v.x.FH j 5 := i32_eq.mpr (by rw [(hM.2.2.2.2.1 j hj).2.2.1, hc.gH])
  have hx16 : x.AM 16 j = v.x.FH j 3 := i32_eq.mpr (by rw [(hM.2.2.2.2.1 j hj).1, hc.gH])
  have hss := (shs (by omega) (by omega) hc4 e2 (sh := v.x.FH j 5)).1
  have e1 : s_X1_process v j m = s_X1_processRead v j (m 2) := by
    unfold s_X1_process
    exact (if_pos h0).trans rfl
  have c1 := (hc.sFH (i := j) (m := 5) (w := (v.x.FH j 5) ||| ((nI 1) <<< ((m 2) &&& 31)))).sFH (i := j) (m := 6) (w := nI 1)
  rw [t1] at c1
  obtain ⟨p1, p2, p3, p4⟩ := mRd_acc (x := x) (j := j) (a := x.AM 23 2)
  have m1 : MR (mRd x j (x.AM 23 2)) T R K S V W O (w2 (w2 H j 5 ((v.x.FH j 5) ||| ((nI 1) <<< ((m 2) &&& 31))).toInt) j 6 1) q := by
    refine hM.setH (fun r hr => p1 r (by omega) (by omega)) (by rw [p4]) (by rw [p4]) ?_ (fun k hk => ?_)
    · rw [p4]
      exact mW.congr hM.mW (fun k => by rw [w2_nj (by decide), w2_nj (by decide)]) (fun k => by rw [w2_nj (by decide), w2_nj (by decide)])
    · obtain ⟨z1, z2, z3, z4, -⟩ := hM.2.2.2.2.1 k hk
      rw [p1 16 (by decide) (by decide), p1 17 (by decide) (by decide), p2, p3, nar_1]
      by_cases e : k = j
      · subst e
        rw [upd_eq, upd_eq, hx18, w2', t1]
        simp [w2]
        exact ⟨z1, z2⟩
      · rw [upd_ne e, upd_ne e]
        simp only [w2_ni e]
        exact ⟨z1, z2, z3, z4⟩
  rw [e1]
  have hn3 : ¬ x.AM 23 0 = nI 3 := fun e => by
    rw [w0, h0] at e
    exact absurd e (by decide)
  by_cases how : v.x.FH j 4 = -1
  · have hH4 : H j 4 = -1 := by rw [← hc.gH, how]; rfl
    have e3 : s_X1_processRead v j (m 2) = vsend (vFH (vFH v j 5 ((v.x.FH j 5) ||| ((nI 1) <<< ((m 2) &&& 31)))) j 6 (nI 1)) (va_up (mkM (nI 5) (nI j) (-1) (m 2)) 4 (v.x.FH j 3)) := by
      unfold s_X1_processRead
      exact (if_pos how).trans rfl
    have e4 : s_X6_process x j (x.AM 23 2) = s_X6_send (mRd x j (x.AM 23 2)) (nI 5) (nI j) (-1) (x.AM 23 2) ((mRd x j (x.AM 23 2)).AM 16 j) (nI 0) (-1) := by
      unfold s_X6_process mRd
      exact (if_neg hn3).trans ((if_pos (w0.trans h0)).trans ((if_pos (hx17.trans how)).trans rfl))
    rw [e3, e4]
    have i1 := (T_getS0 (o := va_up (mkM (nI 5) (nI j) (-1) (m 2)) 4 (v.x.FH j 3)) hc4 hj hI hk hf hl hb hH4 rfl (tj hj) hf (hc.gH j 3) rfl _ hss.1 hss.2).perm allq_send.symm
    have m2 := MR.send (m := va_up (mkM (nI 5) (nI j) (-1) (m 2)) 4 (v.x.FH j 3)) (a1 := nI 5) (a2 := nI j) (a3 := -1) (a4 := x.AM 23 2) (a5 := (mRd x j (x.AM 23 2)).AM 16 j) (a6 := nI 0) (a7 := -1) m1 (by omega) ⟨rfl, rfl, rfl, w2', fun _ => by rw [p1 16 (by decide) (by decide)]; exact hx16, rfl, rfl⟩
    exact ⟨_, _, c1.snd, i1, m2, hP.way, q_way⟩
  · have hH4 : H j 4 ≠ -1 := fun e => how (i32_eq.mpr (by rw [hc.gH, e]; rfl))
    obtain ⟨d, hd⟩ : ∃ d : Nat, H j 4 = (d : Int) := ⟨(H j 4).toNat, by omega⟩
    have hot : tt (va_up (mkM (nI 8) (nI j) (-1) (v.x.FH j 4)) 6 (m 2)) = (d : Int) := (hc.gH j 4).trans hd
    have hk8 : kd (va_up (mkM (nI 8) (nI j) (-1) (v.x.FH j 4)) 6 (m 2)) = 8 := rfl
    have e3 : s_X1_processRead v j (m 2) = vsend (vFH (vFH v j 5 ((v.x.FH j 5) ||| ((nI 1) <<< ((m 2) &&& 31)))) j 6 (nI 1)) (va_up (mkM (nI 8) (nI j) (-1) (v.x.FH j 4)) 6 (m 2)) := by
      unfold s_X1_processRead
      exact (if_neg how).trans rfl
    have e4 : s_X6_process x j (x.AM 23 2) = s_X6_send (mRd x j (x.AM 23 2)) (nI 8) (nI j) (-1) (x.AM 17 j) (nI 0) (nI 0) (x.AM 23 2) := by
      unfold s_X6_process mRd
      exact (if_neg hn3).trans ((if_pos (w0.trans h0)).trans ((if_neg (fun e => how (hx17.symm.trans e))).trans rfl))
    rw [e3, e4]
    have i1 := (T_getS1 (o := va_up (mkM (nI 8) (nI j) (-1) (v.x.FH j 4)) 6 (m 2)) hc4 hj hI hk hf hl hb (by omega) hd hk8 (tj hj) hot hf rfl _ hss.1 hss.2).perm allq_send.symm
    have m2 := MR.send (m := va_up (mkM (nI 8) (nI j) (-1) (v.x.FH j 4)) 6 (m 2)) (a1 := nI 8) (a2 := nI j) (a3 := -1) (a4 := x.AM 17 j) (a5 := nI 0) (a6 := nI 0) (a7 := x.AM 23 2) m1 (by omega) ⟨rfl, rfl, rfl, hx17, fun e => absurd e (by rw [hk8]; decide), rfl, w2'⟩
    exact ⟨_, _, c1.snd, i1, m2, hP.way, q_way⟩
theorem getM_perm {l : List M7} {o : M7} : (allq (va_up q 16 (q 16 ++ l ++ [o]))).Perm (o :: (l ++ allq q)) := by
  have h : (q 16 ++ l ++ [o]).Perm ((o :: l) ++ q 16) := by
    refine (List.perm_append_comm (l₁ := q 16 ++ l) (l₂ := [o])).trans ?_
    exact (List.perm_append_comm (l₁ := q 16) (l₂ := l)).cons o
  exact allq_way h
theorem mW_0 {a : Int32} {L : Nat × St} (hL : lp_X6_process_163 x j a 0 (x.setAM 19 (upd (x.AM 19) j (vp_nar .boolean (nI 1)))) 4 = L) (hn3 : ¬ x.AM 23 0 = nI 3) (hn1 : ¬ (x.setAM 19 (upd (x.AM 19) j (vp_nar .boolean (nI 1)))).AM 23 0 = nI 1) (how : x.AM 17 j = -1) : s_X6_process x j a = (((s_X6_send L.2 (nI 5) (nI j) (-1) a (L.2.AM 16 j) (nI L.1) (-1)).setAM 17 (upd ((s_X6_send L.2 (nI 5) (nI j) (-1) a (L.2.AM 16 j) (nI L.1) (-1)).AM 17) j a)).setAM 18 (upd (((s_X6_send L.2 (nI 5) (nI j) (-1) a (L.2.AM 16 j) (nI L.1) (-1)).setAM 17 (upd ((s_X6_send L.2 (nI 5) (nI j) (-1) a (L.2.AM 16 j) (nI L.1) (-1)).AM 17) j a)).AM 18) j (nI 0))) := by
  unfold s_X6_process
  rw [hL]
  exact (if_neg hn3).trans ((if_neg hn1).trans ((if_pos how).trans rfl))
theorem mW_1 {a : Int32} {L : Nat × St} (hL : lp_X6_process_163 x j a 0 (x.setAM 19 (upd (x.AM 19) j (vp_nar .boolean (nI 1)))) 4 = L) (hn3 : ¬ x.AM 23 0 = nI 3) (hn1 : ¬ (x.setAM 19 (upd (x.AM 19) j (vp_nar .boolean (nI 1)))).AM 23 0 = nI 1) (hn : ¬ x.AM 17 j = -1) (how : x.AM 17 j = a) : s_X6_process x j a = (((s_X6_send L.2 (nI 6) (nI j) (-1) a (nI 0) (nI L.1) (-1)).setAM 17 (upd ((s_X6_send L.2 (nI 6) (nI j) (-1) a (nI 0) (nI L.1) (-1)).AM 17) j a)).setAM 18 (upd (((s_X6_send L.2 (nI 6) (nI j) (-1) a (nI 0) (nI L.1) (-1)).setAM 17 (upd ((s_X6_send L.2 (nI 6) (nI j) (-1) a (nI 0) (nI L.1) (-1)).AM 17) j a)).AM 18) j (nI 0))) := by
  unfold s_X6_process
  rw [hL]
  exact (if_neg hn3).trans ((if_neg hn1).trans ((if_neg hn).trans ((if_pos how).trans rfl)))
theorem mW_2 {a : Int32} {L : Nat × St} (hL : lp_X6_process_163 x j a 0 (x.setAM 19 (upd (x.AM 19) j (vp_nar .boolean (nI 1)))) 4 = L) (hn3 : ¬ x.AM 23 0 = nI 3) (hn1 : ¬ (x.setAM 19 (upd (x.AM 19) j (vp_nar .boolean (nI 1)))).AM 23 0 = nI 1) (hn : ¬ x.AM 17 j = -1) (how : ¬ x.AM 17 j = a) : s_X6_process x j a = (((s_X6_send L.2 (nI 9) (nI j) (-1) (x.AM 17 j) (nI 0) (nI L.1) a).setAM 17 (upd ((s_X6_send L.2 (nI 9) (nI j) (-1) (x.AM 17 j) (nI 0) (nI L.1) a).AM 17) j a)).setAM 18 (upd (((s_X6_send L.2 (nI 9) (nI j) (-1) (x.AM 17 j) (nI 0) (nI L.1) a).setAM 17 (upd ((s_X6_send L.2 (nI 9) (nI j) (-1) (x.AM 17 j) (nI 0) (nI L.1) a).AM 17) j a)).AM 18) j (nI 0))) := by
  unfold s_X6_process
  rw [hL]
  exact (if_neg hn3).trans ((if_neg hn1).trans ((if_neg hn).trans ((if_neg how).trans rfl)))
theorem cW_0 {L : Vw} {bc : Int32} (hL : lp_X1_processWrite_32 v j r v 4 = L) (hbc : bitc (oth v j r) = bc) (how : L.x.FH j 4 = -1) : s_X1_processWrite v j r = vsend (vFH (vFH (vFH L j 4 r) j 5 (nI 0)) j 6 (nI 1)) (va_up (va_up (mkM (nI 5) (nI j) (-1) r) 4 (L.x.FH j 3)) 5 bc) := by
  unfold s_X1_processWrite
  rw [hL, hbc]
  exact (if_pos how).trans rfl
theorem cW_1 {L : Vw} {bc : Int32} (hL : lp_X1_processWrite_32 v j r v 4 = L) (hbc : bitc (oth v j r) = bc) (hn : ¬ L.x.FH j 4 = -1) (how : L.x.FH j 4 = r) : s_X1_processWrite v j r = vsend (vFH (vFH (vFH L j 4 r) j 5 (nI 0)) j 6 (nI 1)) (va_up (mkM (nI 6) (nI j) (-1) r) 5 bc) := by
  unfold s_X1_processWrite
  rw [hL, hbc]
  exact (if_neg hn).trans ((if_pos how).trans rfl)
theorem cW_2 {L : Vw} {bc : Int32} (hL : lp_X1_processWrite_32 v j r v 4 = L) (hbc : bitc (oth v j r) = bc) (hn : ¬ L.x.FH j 4 = -1) (how : ¬ L.x.FH j 4 = r) : s_X1_processWrite v j r = vsend (vFH (vFH (vFH L j 4 r) j 5 (nI 0)) j 6 (nI 1)) (va_up (va_up (mkM (nI 9) (nI j) (-1) (L.x.FH j 4)) 6 r) 5 bc) := by
  unfold s_X1_processWrite
  rw [hL, hbc]
  exact (if_neg hn).trans ((if_neg how).trans rfl)
theorem getM_fin {Lm : Nat × St} {a bb : Int32} {ww : Int32} {c : Nat} {o : M7} {a1 a4 a5 a6 a7 : Int32} (l1 : MR Lm.2 T R K S V W O (w2 H j 6 1) (va_up q 16 (q 16 ++ ivs bb j ww 4))) (hlw : (q 16).length ≤ 44) (ha : a.toInt = (c : Int)) (ho : a1 = o 0 ∧ nI j = o 1 ∧ (-1 : Int32) = o 2 ∧ a4 = o 3 ∧ ((kd o = 3 ∨ kd o = 5) → a5 = o 4) ∧ a6 = o 5 ∧ a7 = o 6) :
    MR (((s_X6_send Lm.2 a1 (nI j) (-1) a4 a5 a6 a7).setAM 17 (upd ((s_X6_send Lm.2 a1 (nI j) (-1) a4 a5 a6 a7).AM 17) j a)).setAM 18 (upd (((s_X6_send Lm.2 a1 (nI j) (-1) a4 a5 a6 a7).setAM 17 (upd ((s_X6_send Lm.2 a1 (nI j) (-1) a4 a5 a6 a7).AM 17) j a)).AM 18) j (nI 0))) T R K S V W O (w2 (w2 (w2 H j 4 (c : Int)) j 5 0) j 6 1) (va_up q 16 (q 16 ++ ivs bb j ww 4 ++ [o])) := by
  have hil := ivs_len (b := bb) (j := j) (r := ww) (n := 4)
  have m1 := MR.send (m := o) (a1 := a1) (a2 := nI j) (a3 := -1) (a4 := a4) (a5 := a5) (a6 := a6) (a7 := a7) l1 (by rw [va_up_self, List.length_append]; omega) ho
  rw [va_up2, va_up_self] at m1
  generalize s_X6_send Lm.2 a1 (nI j) (-1) a4 a5 a6 a7 = Z at m1
  refine m1.setH (fun r hr => by rw [AM_ne (by omega), AM_ne (by omega)]) (by rw [St.FM_setAM, St.FM_setAM]) (by rw [St.FM_setAM, St.FM_setAM]) (by rw [St.FM_setAM, St.FM_setAM]; exact mW.congr m1.mW (fun k => by simp only [w2_nj (show (7:Nat) ≠ 6 by decide), w2_nj (show (7:Nat) ≠ 5 by decide), w2_nj (show (7:Nat) ≠ 4 by decide)]) (fun k => by simp only [w2_nj (show (8:Nat) ≠ 6 by decide), w2_nj (show (8:Nat) ≠ 5 by decide), w2_nj (show (8:Nat) ≠ 4 by decide)])) (fun k hk => ?_)
  obtain ⟨z1, z2, z3, z4, -⟩ := m1.2.2.2.2.1 k hk
  have q16 : ((Z.setAM 17 (upd (Z.AM 17) j a)).setAM 18 (upd ((Z.setAM 17 (upd (Z.AM 17) j a)).AM 18) j (nI 0))).AM 16 = Z.AM 16 := by rw [AM_ne (by decide), AM_ne (by decide)]
  have q17 : ((Z.setAM 17 (upd (Z.AM 17) j a)).setAM 18 (upd ((Z.setAM 17 (upd (Z.AM 17) j a)).AM 18) j (nI 0))).AM 17 = upd (Z.AM 17) j a := by rw [AM_ne (by decide), AM_eq]
  have q18 : ((Z.setAM 17 (upd (Z.AM 17) j a)).setAM 18 (upd ((Z.setAM 17 (upd (Z.AM 17) j a)).AM 18) j (nI 0))).AM 18 = upd (Z.AM 18) j (nI 0) := by rw [AM_eq, AM_ne (by decide)]
  have q19 : ((Z.setAM 17 (upd (Z.AM 17) j a)).setAM 18 (upd ((Z.setAM 17 (upd (Z.AM 17) j a)).AM 18) j (nI 0))).AM 19 = Z.AM 19 := by rw [AM_ne (by decide), AM_ne (by decide)]
  rw [q16, q17, q18, q19]
  by_cases e : k = j
  · subst e
    rw [upd_eq, upd_eq, t0]
    simp [w2] at z1 z4 ⊢
    exact ⟨z1, ha, z4⟩
  · rw [upd_ne e, upd_ne e]
    simp only [w2_ni e] at z1 z2 z3 z4 ⊢
    exact ⟨z1, z2, z3, z4⟩
set_option maxHeartbeats 2000000 in
/-- GET_MODIFIED -/
theorem getM_sim (hc : CE v A R K S V W O H q) (hI : InvC R K S V W O H (m :: allq q)) (hM : MR x T R K S V W O H q) (hP : PLQ q) (hj : j < 16) (hk : kd m = 2) (hl : ln m = (j : Int)) (hb : H j 6 = 0) (hrow : mrow (x.AM 23) m) : ∃ H' q', CE (s_X1_process v j m) A R K S V W O H' q' ∧ InvC R K S V W O H' (allq q') ∧ MR (s_X6_process x j (x.AM 23 2)) T R K S V W O H' q' ∧ PLQ q' ∧ (∀ k, k ≠ 16 → q' k = q k) := by
  have hlw := way_len hI
  obtain ⟨w0, w1, w2', w3, w4, w5, w6⟩ := hrow
  have hwf := hI.1 m List.mem_cons_self
  have h0 : m 0 = nI 2 := i32_eq.mpr hk
  obtain ⟨c, hf⟩ : ∃ c : Nat, fr m = (c : Int) := ⟨(fr m).toNat, by unfold wfm at hwf; omega⟩
  have hc4 : c < 4 := by unfold wfm at hwf; omega
  have e2 : m 2 = nI c := i32_eq.mpr (by rw [nI_toInt (by omega)]; exact hf)
  have g9 := hI.2.2.2.2.2.2.2.2.2.1 j hj
  have hsh : (v.x.FH j 5).toInt = H j 5 := hc.gH j 5
  have hx17 : x.AM 17 j = v.x.FH j 4 := i32_eq.mpr (by rw [(hM.2.2.2.2.1 j hj).2.1, hc.gH])
  have hx18 : x.AM 18 j = v.x.FH j 5 := i32_eq.mpr (by rw [(hM.2.2.2.2.1 j hj).2.2.1, hc.gH])
  have hown : v.x.FH j 4 = -1 ∨ ∃ d : Nat, d < 4 ∧ v.x.FH j 4 = nI d := by
    have e4 := hc.gH j 4
    by_cases z : H j 4 = -1
    · exact Or.inl (i32_eq.mpr (by rw [e4, z]; rfl))
    · exact Or.inr ⟨(H j 4).toNat, by omega, i32_eq.mpr (by rw [e4, nI_toInt (by omega)]; omega)⟩
  have hoth : oth v j (m 2) = ob (v.x.FH j 5) (m 2) (v.x.FH j 4) := rfl
  obtain ⟨b1, b2⟩ := bits (j := j) (by omega) (by omega) hc4 e2 hown (sh := v.x.FH j 5)
  rw [← hoth] at b1 b2
  have e1 : s_X1_process v j m = s_X1_processWrite v j (m 2) := by
    unfold s_X1_process
    exact (if_neg (kne h0 (by decide))).trans ((if_pos h0).trans rfl)
  have cl := cinv (j := j) (r := m 2) hc rfl 4
  generalize hLc : lp_X1_processWrite_32 v j (m 2) v 4 = Lc at cl
  generalize hB : oth v j (m 2) = B at b1 b2 cl
  have zz4 : Lc.x.FH j 4 = v.x.FH j 4 := i32_eq.mpr (by rw [cl.gH, hc.gH])
  have zz3 : Lc.x.FH j 3 = v.x.FH j 3 := i32_eq.mpr (by rw [cl.gH, hc.gH])
  have c1 := ((cl.sFH (i := j) (m := 4) (w := m 2)).sFH (i := j) (m := 5) (w := nI 0)).sFH (i := j) (m := 6) (w := nI 1)
  rw [t1, t0, show (m 2).toInt = (c : Int) from hf] at c1
  have hy18 : (x.setAM 19 (upd (x.AM 19) j (vp_nar .boolean (nI 1)))).AM 18 = x.AM 18 := AM_ne (by decide)
  have my : MR (x.setAM 19 (upd (x.AM 19) j (vp_nar .boolean (nI 1)))) T R K S V W O (w2 H j 6 1) q := by
    refine hM.setH (fun r hr => AM_ne (by omega)) (by rw [St.FM_setAM]) (by rw [St.FM_setAM]) (by rw [St.FM_setAM]; exact mW.congr hM.mW (fun k => w2_nj (by decide)) (fun k => w2_nj (by decide))) (fun k hk => ?_)
    obtain ⟨z1, z2, z3, z4, -⟩ := hM.2.2.2.2.1 k hk
    rw [AM_ne (by decide), AM_ne (by decide), AM_ne (by decide), AM_eq, nar_1, w2_nj (by decide), w2_nj (by decide), w2_nj (by decide)]
    by_cases e : k = j
    · subst e
      rw [upd_eq, w2_eq]
      exact ⟨z1, z2, z3, t1⟩
    · rw [upd_ne e, w2_ni e]
      exact ⟨z1, z2, z3, z4⟩
  obtain ⟨l1, l2, l3, l5, l4⟩ := minv (x := x) (b := B) (r := m 2) (j := j) my hlw (fun n hn => by rw [hy18, hx18, hx17]; exact b2 n hn) 4 (Nat.le_refl _)
  rw [← w2'] at l1 l2 l3 l5 l4
  generalize hLm : lp_X6_process_163 x j (x.AM 23 2) 0 (x.setAM 19 (upd (x.AM 19) j (vp_nar .boolean (nI 1)))) 4 = Lm at l1 l2 l3 l5 l4
  rw [w2'] at l1 l2
  have hil := ivs_len (b := B) (j := j) (r := m 2) (n := 4)
  generalize hbc : bitc B = bc at b1
  have hb1 : bc = nI (ivs B j (m 2) 4).length := b1
  have iv1 : ∀ z ∈ ivs B j (m 2) 4, kd z = 10 ∧ rq z = (c : Int) := fun z hz => by
    obtain ⟨k1, k2, k3, k4, k5⟩ := ivs_mem (Nat.le_refl 4) hj z hz
    exact ⟨k1, k3.trans hf⟩
  have iv2 : ∀ z ∈ ivs B j (m 2) 4, ln z = (j : Int) ∧ 0 ≤ tt z ∧ tt z < 4 := fun z hz => by
    obtain ⟨k1, k2, k3, k4, k5⟩ := ivs_mem (Nat.le_refl 4) hj z hz
    exact ⟨k2, k4, k5⟩
  have hct : (bc).toInt = ((ivs B j (m 2) 4).length : Int) := by rw [hb1, nI_toInt (by omega)]
  have hn3 : ¬ x.AM 23 0 = nI 3 := fun e => by
    rw [w0, h0] at e
    exact absurd e (by decide)
  have hn1 : ¬ (x.setAM 19 (upd (x.AM 19) j (vp_nar .boolean (nI 1)))).AM 23 0 = nI 1 := fun e => by
    rw [AM_ne (by decide), w0, h0] at e
    exact absurd e (by decide)
  rw [e1]
  rcases (show v.x.FH j 4 = -1 ∨ (¬ v.x.FH j 4 = -1 ∧ v.x.FH j 4 = m 2) ∨ (¬ v.x.FH j 4 = -1 ∧ ¬ v.x.FH j 4 = m 2) from Decidable.byCases (fun h : v.x.FH j 4 = -1 => Or.inl h) (fun h => Or.inr (Decidable.byCases (fun h2 : v.x.FH j 4 = m 2 => Or.inl ⟨h, h2⟩) (fun h2 => Or.inr ⟨h, h2⟩)))) with how | ⟨hn, how⟩ | ⟨hn, how⟩
  · have hH4 : H j 4 = -1 := by rw [← hc.gH, how]; rfl
    have e3 := cW_0 (j := j) (r := m 2) (bc := bc) hLc (by rw [hB]; exact hbc) (zz4.trans how)
    have e4 := mW_0 hLm hn3 hn1 (hx17.trans how)
    have hov : (Lm.2.AM 16 j) = v.x.FH j 3 := i32_eq.mpr (by rw [(l1.2.2.2.2.1 j hj).1, hc.gH, w2_nj (by decide)])
    rw [e3, e4]
    have i1 := (T_getM0 (o := va_up (va_up (mkM (nI 5) (nI j) (-1) (m 2)) 4 (Lc.x.FH j 3)) 5 (bc)) hc4 hj hI hk hf hl hb hH4 (ivs B j (m 2) 4) iv1 iv2 hil rfl hf ((congrArg Int32.toInt zz3).trans (hc.gH j 3)) (tj hj) hct).perm getM_perm.symm
    have c2 := c1.snd (m := va_up (va_up (mkM (nI 5) (nI j) (-1) (m 2)) 4 (Lc.x.FH j 3)) 5 (bc))
    rw [va_up2, va_up_self] at c2
    exact ⟨_, _, c2, i1, getM_fin l1 hlw (by rw [w2']; exact hf) ⟨rfl, rfl, rfl, w2', fun _ => hov.trans zz3.symm, by rw [l2, ← hb1]; rfl, rfl⟩, hP.way, q_way⟩
  · have hH4 : H j 4 = (c : Int) := by rw [← hc.gH, how]; exact hf
    have ho : kd (va_up (mkM (nI 6) (nI j) (-1) (m 2)) 5 (bc)) = 6 := rfl
    have e3 := cW_1 (j := j) (r := m 2) (bc := bc) hLc (by rw [hB]; exact hbc) (fun e => hn (zz4.symm.trans e)) (zz4.trans how)
    have e4 := mW_1 hLm hn3 hn1 (fun e => hn (hx17.symm.trans e)) (hx17.trans (how.trans w2'.symm))
    rw [e3, e4]
    have i1 := (T_getM1 (o := va_up (mkM (nI 6) (nI j) (-1) (m 2)) 5 (bc)) hc4 hj hI hk hf hl hb hH4 (ivs B j (m 2) 4) iv1 iv2 hil ho hf (tj hj) hct).perm getM_perm.symm
    have c2 := c1.snd (m := va_up (mkM (nI 6) (nI j) (-1) (m 2)) 5 (bc))
    rw [va_up2, va_up_self] at c2
    exact ⟨_, _, c2, i1, getM_fin l1 hlw (by rw [w2']; exact hf) ⟨rfl, rfl, rfl, w2', fun e => absurd e (by rw [ho]; decide), by rw [l2, ← hb1]; rfl, rfl⟩, hP.way, q_way⟩
  · have hH4 : H j 4 ≠ -1 := fun e => hn (i32_eq.mpr (by rw [hc.gH, e]; rfl))
    obtain ⟨d, hd⟩ : ∃ d : Nat, H j 4 = (d : Int) := ⟨(H j 4).toNat, by omega⟩
    have ho : kd (va_up (va_up (mkM (nI 9) (nI j) (-1) (Lc.x.FH j 4)) 6 (m 2)) 5 (bc)) = 9 := rfl
    have hot : tt (va_up (va_up (mkM (nI 9) (nI j) (-1) (Lc.x.FH j 4)) 6 (m 2)) 5 (bc)) = (d : Int) := (congrArg Int32.toInt zz4).trans ((hc.gH j 4).trans hd)
    have e3 := cW_2 (j := j) (r := m 2) (bc := bc) hLc (by rw [hB]; exact hbc) (fun e => hn (zz4.symm.trans e)) (fun e => how (zz4.symm.trans e))
    have e4 := mW_2 hLm hn3 hn1 (fun e => hn (hx17.symm.trans e)) (fun e => how (hx17.symm.trans (e.trans w2')))
    rw [e3, e4]
    have i1 := (T_getM2 (o := va_up (va_up (mkM (nI 9) (nI j) (-1) (Lc.x.FH j 4)) 6 (m 2)) 5 (bc)) hc4 hj hI hk hf hl hb (by omega) hd (ivs B j (m 2) 4) iv1 iv2 hil ho hot hf (tj hj) hct).perm getM_perm.symm
    have c2 := c1.snd (m := va_up (va_up (mkM (nI 9) (nI j) (-1) (Lc.x.FH j 4)) 6 (m 2)) 5 (bc))
    rw [va_up2, va_up_self] at c2
    exact ⟨_, _, c2, i1, getM_fin l1 hlw (by rw [w2']; exact hf) ⟨rfl, rfl, rfl, hx17.trans zz4.symm, fun e => absurd e (by rw [ho]; decide), by rw [l2, ← hb1]; rfl, w2'⟩, hP.way, q_way⟩
/-- a home processes a message -/
theorem process_sim (hc : CE v A R K S V W O H q) (hI : InvC R K S V W O H (m :: allq q)) (hM : MR x T R K S V W O H q) (hP : PLQ q) (hj : j < 16) (hk : 1 ≤ kd m ∧ kd m ≤ 3) (hl : ln m = (j : Int)) (hb : H j 6 = 0) (hrow : mrow (x.AM 23) m) : ∃ H' q', CE (s_X1_process v j m) A R K S V W O H' q' ∧ InvC R K S V W O H' (allq q') ∧ MR (s_X6_process x j (x.AM 23 2)) T R K S V W O H' q' ∧ PLQ q' ∧ (∀ k, k ≠ 16 → q' k = q k) := by
  rcases (show kd m = 1 ∨ kd m = 2 ∨ kd m = 3 by omega) with h | h | h
  · exact getS_sim hc hI hM hP hj h hl hb hrow
  · exact getM_sim hc hI hM hP hj h hl hb hrow
  · exact put_sim hc hI hM hP hj h hl hb hrow
end PROC
