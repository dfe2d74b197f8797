/-! ===== class and model side by side: messages to a cache ===== -/
def mAns (x : St) (i : Nat) : St :=
  let x1 := x.setAM 12 (upd (x.AM 12) i (vp_nar .boolean (nI 1)))
  let x2 := x1.setAM 13 (upd (x1.AM 13) i (x1.AM 23 4))
  let x3 := x2.setAM 14 (upd (x2.AM 14) i (x2.AM 23 5))
  x3
def mAck (x : St) (i : Nat) : St := x.setAM 15 (upd (x.AM 15) i ((x.AM 15 i) + (nI 1)))
def mVal (x : St) (i j : Nat) : Int32 := if x.AM 2 (16 * i + j) ≤ 0 then x.AM 5 (16 * i + j) else x.AM 3 (16 * i + j)
section RCV2
variable {v : Vw} {x A : St} {R K S V W : Nat → Nat → Int} {O : Nat → List Nat} {H : Nat → Nat → Int} {q : Nat → List M7} {i j T : Nat} {m : M7}
theorem kne {k n : Nat} {a : Int32} (h : a = nI k) (hkn : ¬ nI k = nI n) : ¬ a = nI n := fun e => hkn (h.symm.trans e)
theorem recv_5 (h : x.AM 23 0 = nI 5) : s_X6_receive x i j = s_X6_complete (mAns x i) i := by
  unfold s_X6_receive mAns
  by_cases z : x.AM 2 (16 * i + j) ≤ 0
  · exact (if_pos z).trans ((if_pos h).trans rfl)
  · exact (if_neg z).trans ((if_pos h).trans rfl)
theorem recv_6 (h : x.AM 23 0 = nI 6) : s_X6_receive x i j = s_X6_complete (mAns x i) i := by
  have h5 : ¬ x.AM 23 0 = nI 5 := kne h (by decide)
  unfold s_X6_receive mAns
  by_cases z : x.AM 2 (16 * i + j) ≤ 0
  · exact (if_pos z).trans ((if_neg h5).trans ((if_pos h).trans rfl))
  · exact (if_neg z).trans ((if_neg h5).trans ((if_pos h).trans rfl))
theorem recv_7 (h : x.AM 23 0 = nI 7) : s_X6_receive x i j = s_X6_complete (mAck x i) i := by
  have h5 : ¬ x.AM 23 0 = nI 5 := kne h (by decide)
  have h6 : ¬ x.AM 23 0 = nI 6 := kne h (by decide)
  unfold s_X6_receive mAck
  by_cases z : x.AM 2 (16 * i + j) ≤ 0
  · exact (if_pos z).trans ((if_neg h5).trans ((if_neg h6).trans ((if_pos h).trans rfl)))
  · exact (if_neg z).trans ((if_neg h5).trans ((if_neg h6).trans ((if_pos h).trans rfl)))
theorem recv_8 (h : x.AM 23 0 = nI 8) : s_X6_receive x i j = if (s_X6_send x (nI 5) (nI j) (nI i) (x.AM 23 6) (mVal x i j) (nI 0) (-1)).AM 2 (16 * i + j) = nI 3 then (s_X6_send x (nI 5) (nI j) (nI i) (x.AM 23 6) (mVal x i j) (nI 0) (-1)).setAM 2 (upd ((s_X6_send x (nI 5) (nI j) (nI i) (x.AM 23 6) (mVal x i j) (nI 0) (-1)).AM 2) (16 * i + j) (nI 2)) else s_X6_send x (nI 5) (nI j) (nI i) (x.AM 23 6) (mVal x i j) (nI 0) (-1) := by
  have h5 : ¬ x.AM 23 0 = nI 5 := kne h (by decide)
  have h6 : ¬ x.AM 23 0 = nI 6 := kne h (by decide)
  have h7 : ¬ x.AM 23 0 = nI 7 := kne h (by decide)
  unfold s_X6_receive
  by_cases z : x.AM 2 (16 * i + j) ≤ 0
  · rw [show mVal x i j = x.AM 5 (16 * i + j) from if_pos z]
    exact (if_pos z).trans ((if_neg h5).trans ((if_neg h6).trans ((if_neg h7).trans ((if_pos h).trans rfl))))
  · rw [show mVal x i j = x.AM 3 (16 * i + j) from if_neg z]
    exact (if_neg z).trans ((if_neg h5).trans ((if_neg h6).trans ((if_neg h7).trans ((if_pos h).trans rfl))))
theorem recv_9 (h : x.AM 23 0 = nI 9) : s_X6_receive x i j = (s_X6_send x (nI 5) (nI j) (nI i) (x.AM 23 6) (mVal x i j) (x.AM 23 5) (-1)).setAM 2 (upd ((s_X6_send x (nI 5) (nI j) (nI i) (x.AM 23 6) (mVal x i j) (x.AM 23 5) (-1)).AM 2) (16 * i + j) (nI 0)) := by
  have h5 : ¬ x.AM 23 0 = nI 5 := kne h (by decide)
  have h6 : ¬ x.AM 23 0 = nI 6 := kne h (by decide)
  have h7 : ¬ x.AM 23 0 = nI 7 := kne h (by decide)
  have h8 : ¬ x.AM 23 0 = nI 8 := kne h (by decide)
  unfold s_X6_receive
  by_cases z : x.AM 2 (16 * i + j) ≤ 0
  · rw [show mVal x i j = x.AM 5 (16 * i + j) from if_pos z]
    exact (if_pos z).trans ((if_neg h5).trans ((if_neg h6).trans ((if_neg h7).trans ((if_neg h8).trans ((if_pos h).trans rfl)))))
  · rw [show mVal x i j = x.AM 3 (16 * i + j) from if_neg z]
    exact (if_neg z).trans ((if_neg h5).trans ((if_neg h6).trans ((if_neg h7).trans ((if_neg h8).trans ((if_pos h).trans rfl)))))
theorem recv_10 (h : x.AM 23 0 = nI 10) : s_X6_receive x i j = if x.AM 2 (16 * i + j) = nI 1 then s_X6_send (x.setAM 2 (upd (x.AM 2) (16 * i + j) (nI 0))) (nI 7) (nI j) (nI i) ((x.setAM 2 (upd (x.AM 2) (16 * i + j) (nI 0))).AM 23 6) (nI 0) (nI 0) (-1) else s_X6_send x (nI 7) (nI j) (nI i) (x.AM 23 6) (nI 0) (nI 0) (-1) := by
  have h5 : ¬ x.AM 23 0 = nI 5 := kne h (by decide)
  have h6 : ¬ x.AM 23 0 = nI 6 := kne h (by decide)
  have h7 : ¬ x.AM 23 0 = nI 7 := kne h (by decide)
  have h8 : ¬ x.AM 23 0 = nI 8 := kne h (by decide)
  have h9 : ¬ x.AM 23 0 = nI 9 := kne h (by decide)
  unfold s_X6_receive
  by_cases z : x.AM 2 (16 * i + j) ≤ 0
  · exact (if_pos z).trans ((if_neg h5).trans ((if_neg h6).trans ((if_neg h7).trans ((if_neg h8).trans ((if_neg h9).trans ((if_pos h).trans rfl))))))
  · exact (if_neg z).trans ((if_neg h5).trans ((if_neg h6).trans ((if_neg h7).trans ((if_neg h8).trans ((if_neg h9).trans ((if_pos h).trans rfl))))))
theorem recv_11 (h : x.AM 23 0 = nI 11) : s_X6_receive x i j = x.setAM 5 (upd (x.AM 5) (16 * i + j) (-1)) := by
  have h5 : ¬ x.AM 23 0 = nI 5 := kne h (by decide)
  have h6 : ¬ x.AM 23 0 = nI 6 := kne h (by decide)
  have h7 : ¬ x.AM 23 0 = nI 7 := kne h (by decide)
  have h8 : ¬ x.AM 23 0 = nI 8 := kne h (by decide)
  have h9 : ¬ x.AM 23 0 = nI 9 := kne h (by decide)
  have h10 : ¬ x.AM 23 0 = nI 10 := kne h (by decide)
  unfold s_X6_receive
  by_cases z : x.AM 2 (16 * i + j) ≤ 0
  · exact (if_pos z).trans ((if_neg h5).trans ((if_neg h6).trans ((if_neg h7).trans ((if_neg h8).trans ((if_neg h9).trans ((if_neg h10).trans rfl))))))
  · exact (if_neg z).trans ((if_neg h5).trans ((if_neg h6).trans ((if_neg h7).trans ((if_neg h8).trans ((if_neg h9).trans ((if_neg h10).trans rfl))))))
theorem MR.ans (h : MR x T R K S V W O H q) (hi : i < 4) (hr : R i 0 ≠ -1) (hm4 : R i 1 = 0 → (x.AM 23 4).toInt = vl m) (hm5 : (x.AM 23 5).toInt = cn m) : MR (mAns x i) T (w2 (w2 (w2 R i 3 1) i 4 (vl m)) i 5 (cn m)) K S V W O H q := by
  obtain ⟨g1, g2, g3, g4, g5, g6, g7, g8⟩ := h
  have r0 : ∀ k, w2 (w2 (w2 R i 3 1) i 4 (vl m)) i 5 (cn m) k 0 = R k 0 := fun k => by simp [w2]
  have r1 : ∀ k, w2 (w2 (w2 R i 3 1) i 4 (vl m)) i 5 (cn m) k 1 = R k 1 := fun k => by simp [w2]
  have r2 : ∀ k, w2 (w2 (w2 R i 3 1) i 4 (vl m)) i 5 (cn m) k 2 = R k 2 := fun k => by simp [w2]
  have r6 : ∀ k, w2 (w2 (w2 R i 3 1) i 4 (vl m)) i 5 (cn m) k 6 = R k 6 := fun k => by simp [w2]
  have r3 : ∀ k, w2 (w2 (w2 R i 3 1) i 4 (vl m)) i 5 (cn m) k 3 = if k = i then 1 else R k 3 := fun k => by simp [w2]
  have r4 : ∀ k, w2 (w2 (w2 R i 3 1) i 4 (vl m)) i 5 (cn m) k 4 = if k = i then vl m else R k 4 := fun k => by simp [w2]
  have r5 : ∀ k, w2 (w2 (w2 R i 3 1) i 4 (vl m)) i 5 (cn m) k 5 = if k = i then cn m else R k 5 := fun k => by simp [w2]
  have k1 : mA (x.AM 0) (x.AM 1) (x.AM 6) (x.AM 7) (x.AM 8) (x.AM 9) (w2 (w2 (w2 R i 3 1) i 4 (vl m)) i 5 (cn m)) K := by
    intro k hk
    rw [r0]
    exact g1 k hk
  have k2 : mB (x.AM 10) (x.AM 11) (upd (x.AM 12) i (vp_nar .boolean (nI 1))) (upd (x.AM 13) i (x.AM 23 4)) (upd (x.AM 14) i (x.AM 23 5)) (x.AM 15) (w2 (w2 (w2 R i 3 1) i 4 (vl m)) i 5 (cn m)) := by
    intro k hk hr
    rw [r0] at hr
    rw [r1, r2, r3, r4, r5, r6]
    obtain ⟨q1, q2, q3, q4, q5⟩ := g2 k hk hr
    by_cases e : k = i
    · subst e
      rw [upd_eq, upd_eq, upd_eq, if_pos rfl, if_pos rfl, if_pos rfl, nar_1]
      exact ⟨q1, q2, t1, fun _ => ⟨hm4, hm5⟩, q5⟩
    · rw [upd_ne e, upd_ne e, upd_ne e, if_neg e, if_neg e, if_neg e]
      exact ⟨q1, q2, q3, q4, q5⟩
  exact ⟨k1, k2, g3, g4, g5, g6, g7, g8⟩
theorem MR.ack (h : MR x T R K S V W O H q) (hi : i < 4) (hr : R i 0 ≠ -1) (hb : R i 6 < 100) : MR (mAck x i) T (w2 R i 6 (R i 6 + 1)) K S V W O H q := by
  obtain ⟨g1, g2, g3, g4, g5, g6, g7, g8⟩ := h
  have rr : ∀ k n, n ≠ 6 → w2 R i 6 (R i 6 + 1) k n = R k n := fun k n hn => w2_nj hn
  have k1 : mA (x.AM 0) (x.AM 1) (x.AM 6) (x.AM 7) (x.AM 8) (x.AM 9) (w2 R i 6 (R i 6 + 1)) K := by
    intro k hk
    rw [rr _ 0 (by decide)]
    exact g1 k hk
  have k2 : mB (x.AM 10) (x.AM 11) (x.AM 12) (x.AM 13) (x.AM 14) (upd (x.AM 15) i (x.AM 15 i + nI 1)) (w2 R i 6 (R i 6 + 1)) := by
    intro k hk hr
    rw [rr _ 0 (by decide)] at hr
    rw [rr _ 1 (by decide), rr _ 2 (by decide), rr _ 3 (by decide), rr _ 4 (by decide), rr _ 5 (by decide)]
    obtain ⟨q1, q2, q3, q4, q5⟩ := g2 k hk hr
    by_cases e : k = i
    · subst e
      rw [upd_eq, w2_eq, i32_add1 (by omega), q5]
      exact ⟨q1, q2, q3, q4, rfl⟩
    · rw [upd_ne e, w2_ni e]
      exact ⟨q1, q2, q3, q4, q5⟩
  exact ⟨k1, k2, g3, g4, g5, g6, g7, g8⟩
/-- what the model takes as the value of a line is what the class takes -/
theorem mVal_eq (hc : CE v A R K S V W O H q) (hI : InvC R K S V W O H (m :: allq q)) (hM : MR x T R K S V W O H q) (hi : i < 4) (hj : j < 16) : mVal x i j = (if nI (r_X0_holds v i j) = 0 then v.x.AC i 2 j else v.x.AC i 1 j) := by
  obtain ⟨e1, e2, e3⟩ := hM.2.2.1 i j hi hj
  have s0 := (hI.2.2.2.2.2.2.1 i hi j hj).1
  unfold mVal
  by_cases hs : S i j = 0
  · rw [if_pos (i32_le0.mpr (by omega)), if_pos ((holds_iff hc).mpr hs)]
    exact i32_eq.mpr (by rw [e3, hc.gW])
  · rw [if_neg (fun q => by have := i32_le0.mp q; omega), if_neg (fun e => hs ((holds_iff hc).mp e))]
    exact i32_eq.mpr (by rw [e2 hs, hc.gV])
theorem val_toInt (hc : CE v A R K S V W O H q) : (if nI (r_X0_holds v i j) = 0 then v.x.AC i 2 j else v.x.AC i 1 j).toInt = if S i j = 0 then W i j else V i j := by
  by_cases hs : S i j = 0
  · rw [if_pos ((holds_iff hc).mpr hs), if_pos hs, hc.gW]
  · rw [if_neg (fun e => hs ((holds_iff hc).mp e)), if_neg hs, hc.gV]
/-- the message with which a cache answers a forward -/
def mData (v : Vw) (i j : Nat) (mm : M7) : M7 := va_up (va_up (mkM (nI 5) (nI j) (nI i) (mm 6)) 4 (if nI (r_X0_holds v i j) = 0 then v.x.AC i 2 j else v.x.AC i 1 j)) 5 (mm 5)
theorem pass_9 (h : m 0 = nI 9) : s_X0_passOn v i j m = s_X0_drop (vsend v (mData v i j m)) i j := by
  unfold s_X0_passOn
  by_cases z : nI (r_X0_holds v i j) = 0
  · rw [show mData v i j m = va_up (va_up (mkM (nI 5) (nI j) (nI i) (m 6)) 4 (v.x.AC i 2 j)) 5 (m 5) from by unfold mData; rw [if_pos z]]
    exact (if_pos z).trans ((if_pos h).trans rfl)
  · rw [show mData v i j m = va_up (va_up (mkM (nI 5) (nI j) (nI i) (m 6)) 4 (v.x.AC i 1 j)) 5 (m 5) from by unfold mData; rw [if_neg z]]
    exact (if_neg z).trans ((if_pos h).trans rfl)
theorem pass_8 (h : ¬ m 0 = nI 9) : s_X0_passOn v i j m = if v.x.AC i 0 j = nI 3 then vAC (vsend v (mData v i j m)) i 0 (upd ((vsend v (mData v i j m)).x.AC i 0) j (nI 2)) else vsend v (mData v i j m) := by
  unfold s_X0_passOn
  by_cases z : nI (r_X0_holds v i j) = 0
  · rw [show mData v i j m = va_up (va_up (mkM (nI 5) (nI j) (nI i) (m 6)) 4 (v.x.AC i 2 j)) 5 (m 5) from by unfold mData; rw [if_pos z]]
    exact (if_pos z).trans ((if_neg h).trans rfl)
  · rw [show mData v i j m = va_up (va_up (mkM (nI 5) (nI j) (nI i) (m 6)) 4 (v.x.AC i 1 j)) 5 (m 5) from by unfold mData; rw [if_neg z]]
    exact (if_neg z).trans ((if_neg h).trans rfl)
set_option maxHeartbeats 2000000 in
/-- a cache receives a message -/
theorem recv_sim (hT : T < 2 ^ 31 - 1) (hc : CE v A R K S V W O H q) (hI : InvC R K S V W O H (m :: allq q)) (hM : MR x T R K S V W O H q) (hP : PLQ q) (hi : i < 4) (hj : j < 16) (hl : ln m = (j : Int)) (ht : tt m = (i : Int)) (hrow : mrow (x.AM 23) m) : SM (s_X0_receive v i j m) (s_X6_receive x i j) A (T + 1) := by
  have hlen := hI.len
  rw [List.length_cons] at hlen
  have hlw : (q 16).length ≤ 44 := by
    unfold allq at hlen
    rw [List.length_append] at hlen
    omega
  obtain ⟨w0, w1, w2', w3, w4, w5, w6⟩ := hrow
  have hwf := hI.1 m List.mem_cons_self
  have hk : 5 ≤ kd m ∧ kd m ≤ 11 := by
    unfold wfm at hwf
    omega
  have kk : ∀ n : Nat, n < 100 → kd m = (n : Int) → m 0 = nI n := fun n hn e => i32_eq.mpr (by rw [nI_toInt (by omega)]; exact e)
  have lk := hI.2.2.1 i hi m List.mem_cons_self
  have rA := hI.2.1 i hi
  unfold rqA at rA
  by_cases h56 : kd m = 5 ∨ kd m = 6
  · have r0 := (lk.2.2.1 h56 ht).1
    have hr0 : R i 0 = (j : Int) := by omega
    have e1 : s_X0_receive v i j m = s_X0_finishIfComplete (vFR (vFR (vFR v i 3 (nI 1)) i 4 (m 4)) i 5 (m 5)) i j := by
      unfold s_X0_receive
      rcases h56 with h | h
      · exact (if_pos (kk 5 (by decide) h)).trans rfl
      · exact (if_neg (kne (kk 6 (by decide) h) (by decide))).trans ((if_pos (kk 6 (by decide) h)).trans rfl)
    have e2 : s_X6_receive x i j = s_X6_complete (mAns x i) i := by
      rcases h56 with h | h
      · exact recv_5 (by rw [w0]; exact kk 5 (by decide) h)
      · exact recv_6 (by rw [w0]; exact kk 6 (by decide) h)
    rw [e1, e2]
    have c1 := ((hc.sFR (i := i) (m := 3) (w := nI 1)).sFR (i := i) (m := 4) (w := m 4)).sFR (i := i) (m := 5) (w := m 5)
    rw [t1] at c1
    have i1 := T_ans hi hI h56 ht
    have m1 := hM.ans (m := m) hi (by omega) (fun h1 => by
      rcases h56 with h | h
      · rw [w4 (Or.inr h)]
        rfl
      · have := (lk.2.2.1 (Or.inr h) ht).2.2 h
        omega) (by rw [w5]; rfl)
    exact fin_sim hT c1 i1 m1 hP hi hj (by rw [w2_nj (by decide), w2_nj (by decide), w2_nj (by decide)]; exact hr0)
  by_cases h7 : kd m = 7
  · have r0 := lk.2.2.2.2 h7 ht
    have hr0 : R i 0 = (j : Int) := by omega
    have z0 := kk 7 (by decide) h7
    have e1 : s_X0_receive v i j m = s_X0_finishIfComplete (vFR v i 6 (v.x.FR i 6 + nI 1)) i j := by
      unfold s_X0_receive
      exact (if_neg (kne z0 (by decide))).trans ((if_neg (kne z0 (by decide))).trans ((if_pos z0).trans rfl))
    rw [e1, recv_7 (by rw [w0]; exact z0)]
    have c1 := hc.sFR (i := i) (m := 6) (w := v.x.FR i 6 + nI 1)
    rw [i32_add1 (by rw [hc.gR]; omega), hc.gR] at c1
    exact fin_sim hT c1 (T_ack hi hI h7 ht) (hM.ack hi (by omega) (by omega)) hP hi hj (by rw [w2_nj (by decide)]; exact hr0)
  have hmv := mVal_eq hc hI hM hi hj
  have hvt := val_toInt (i := i) (j := j) hc
  have hgt : ∀ k n, n = j ∧ k = i → S k n = S i j := fun k n e => by rw [e.1, e.2]
  by_cases h8 : kd m = 8
  · have z0 := kk 8 (by decide) h8
    obtain ⟨d, hd⟩ : ∃ d : Nat, rq m = (d : Int) := ⟨(rq m).toNat, by unfold wfm at hwf; omega⟩
    have hd4 : d < 4 := by unfold wfm at hwf; omega
    have hcn : cn m = 0 := by unfold wfm at hwf; omega
    have e1 : s_X0_receive v i j m = s_X0_passOn v i j m := by
      unfold s_X0_receive
      exact (if_neg (kne z0 (by decide))).trans ((if_neg (kne z0 (by decide))).trans ((if_neg (kne z0 (by decide))).trans ((if_pos z0).trans rfl)))
    rw [e1, recv_8 (by rw [w0]; exact z0), pass_8 (kne z0 (by decide)), send_AM (by decide)]
    have c1 := hc.snd (m := mData v i j m)
    have m1 := MR.send (m := mData v i j m) (a1 := nI 5) (a2 := nI j) (a3 := nI i) (a4 := x.AM 23 6) (a5 := mVal x i j) (a6 := nI 0) (a7 := -1) hM (by omega) ⟨rfl, rfl, rfl, w6, fun _ => hmv, i32_eq.mpr (by rw [t0]; exact hcn.symm), rfl⟩
    have eS : x.AM 2 (16 * i + j) = nI 3 ↔ S i j = 3 := by rw [i32_eq, (hM.2.2.1 i j hi hj).1, t3]
    have eC : v.x.AC i 0 j = nI 3 ↔ S i j = 3 := by rw [i32_eq, hc.gS, t3]
    have hI2 : ∀ s : Int, (s = S i j ∨ (S i j = 3 ∧ s = 2)) → InvC R K (w2 S i j s) V W O H (allq (va_up q 16 (q 16 ++ [mData v i j m]))) := fun s hs =>
      (T_fwdS (o := mData v i j m) hi hj hd4 hI h8 hl ht hd hs rfl (tj hj) hd hvt rfl).perm allq_send.symm
    by_cases hs : S i j = 3
    · rw [if_pos (eS.mpr hs), if_pos (eC.mpr hs)]
      have c2 := c1.sS (i := i) (j := j) (w := nI 2)
      have m2 := m1.st (i := i) (j := j) (s := nI 2) hi hj (by omega)
      rw [t2] at c2 m2
      rw [send_AM (by decide)] at m2
      exact ⟨_, _, _, _, _, _, _, _, c2, hI2 2 (Or.inr ⟨hs, rfl⟩), m2.mono (Nat.le_succ _), hP.way⟩
    · rw [if_neg (fun e => hs (eS.mp e)), if_neg (fun e => hs (eC.mp e))]
      have e3 : w2 S i j (S i j) = S := by
        funext k n
        unfold w2
        split
        · rename_i e
          rw [e.1, e.2]
        · rfl
      have i2 := hI2 (S i j) (Or.inl rfl)
      rw [e3] at i2
      exact ⟨_, _, _, _, _, _, _, _, c1, i2, m1.mono (Nat.le_succ _), hP.way⟩
  by_cases h9 : kd m = 9
  · have z0 := kk 9 (by decide) h9
    obtain ⟨d, hd⟩ : ∃ d : Nat, rq m = (d : Int) := ⟨(rq m).toNat, by unfold wfm at hwf; omega⟩
    have hd4 : d < 4 := by unfold wfm at hwf; omega
    have e1 : s_X0_receive v i j m = s_X0_passOn v i j m := by
      unfold s_X0_receive
      exact (if_neg (kne z0 (by decide))).trans ((if_neg (kne z0 (by decide))).trans ((if_neg (kne z0 (by decide))).trans ((if_neg (kne z0 (by decide))).trans ((if_pos z0).trans rfl))))
    rw [e1, recv_9 (by rw [w0]; exact z0), pass_9 z0]
    have c1 := (hc.snd (m := mData v i j m)).drop hi hj
    have m1 := (MR.send (m := mData v i j m) (a1 := nI 5) (a2 := nI j) (a3 := nI i) (a4 := x.AM 23 6) (a5 := mVal x i j) (a6 := x.AM 23 5) (a7 := -1) hM (by omega) ⟨rfl, rfl, rfl, w6, fun _ => hmv, w5, rfl⟩).drop (i := i) (z := -1) hj
    have i1 := (T_fwdM (o := mData v i j m) hi hj hd4 hI h9 hl ht hd rfl (tj hj) hd hvt rfl).perm allq_send.symm
    exact ⟨_, _, _, _, _, _, _, _, c1, i1, m1.mono (Nat.le_succ _), hP.way⟩
  by_cases h10 : kd m = 10
  · have z0 := kk 10 (by decide) h10
    obtain ⟨d, hd⟩ : ∃ d : Nat, rq m = (d : Int) := ⟨(rq m).toNat, by unfold wfm at hwf; omega⟩
    have hd4 : d < 4 := by unfold wfm at hwf; omega
    have eS : x.AM 2 (16 * i + j) = nI 1 ↔ S i j = 1 := by rw [i32_eq, (hM.2.2.1 i j hi hj).1, t1]
    have eC : v.x.AC i 0 j = nI 1 ↔ S i j = 1 := by rw [i32_eq, hc.gS, t1]
    have e1 : s_X0_receive v i j m = if v.x.AC i 0 j = nI 1 then vsend (s_X0_drop v i j) (mkM (nI 7) (nI j) (nI i) (m 6)) else vsend v (mkM (nI 7) (nI j) (nI i) (m 6)) := by
      unfold s_X0_receive
      exact (if_neg (kne z0 (by decide))).trans ((if_neg (kne z0 (by decide))).trans ((if_neg (kne z0 (by decide))).trans ((if_neg (kne z0 (by decide))).trans ((if_neg (kne z0 (by decide))).trans ((if_pos z0).trans rfl)))))
    have ho : kd (mkM (nI 7) (nI j) (nI i) (m 6)) = 7 := rfl
    rw [e1, recv_10 (by rw [w0]; exact z0)]
    by_cases hs : S i j = 1
    · rw [if_pos (eS.mpr hs), if_pos (eC.mpr hs)]
      have c1 := (hc.drop hi hj).snd (m := mkM (nI 7) (nI j) (nI i) (m 6))
      have i1 := (T_inv (o := mkM (nI 7) (nI j) (nI i) (m 6)) hj hd4 (T_out1 hi hj hI hs) h10 hl hd ho (tj hj) hd).perm allq_send.symm
      have m1 := MR.send (m := mkM (nI 7) (nI j) (nI i) (m 6)) (a1 := nI 7) (a2 := nI j) (a3 := nI i) (a4 := (x.setAM 2 (upd (x.AM 2) (16 * i + j) (nI 0))).AM 23 6) (a5 := nI 0) (a6 := nI 0) (a7 := -1) (hM.drop (i := i) (z := -1) hj) (by omega) ⟨rfl, rfl, rfl, w6, fun e => absurd e (by rw [ho]; decide), rfl, rfl⟩
      exact ⟨_, _, _, _, _, _, _, _, c1, i1, m1.mono (Nat.le_succ _), hP.way⟩
    · rw [if_neg (fun e => hs (eS.mp e)), if_neg (fun e => hs (eC.mp e))]
      have c1 := hc.snd (m := mkM (nI 7) (nI j) (nI i) (m 6))
      have i1 := (T_inv (o := mkM (nI 7) (nI j) (nI i) (m 6)) hj hd4 hI h10 hl hd ho (tj hj) hd).perm allq_send.symm
      have m1 := MR.send (m := mkM (nI 7) (nI j) (nI i) (m 6)) (a1 := nI 7) (a2 := nI j) (a3 := nI i) (a4 := x.AM 23 6) (a5 := nI 0) (a6 := nI 0) (a7 := -1) hM (by omega) ⟨rfl, rfl, rfl, w6, fun e => absurd e (by rw [ho]; decide), rfl, rfl⟩
      exact ⟨_, _, _, _, _, _, _, _, c1, i1, m1.mono (Nat.le_succ _), hP.way⟩
  · have h11 : kd m = 11 := by omega
    have z0 := kk 11 (by decide) h11
    have e1 : s_X0_receive v i j m = vFC (vAC v i 2 (upd (v.x.AC i 2) j (-1))) i 8 (v.x.FC i 8 - nI 1) := by
      unfold s_X0_receive
      exact (if_neg (kne z0 (by decide))).trans ((if_neg (kne z0 (by decide))).trans ((if_neg (kne z0 (by decide))).trans ((if_neg (kne z0 (by decide))).trans ((if_neg (kne z0 (by decide))).trans ((if_neg (kne z0 (by decide))).trans ((if_pos z0).trans rfl))))))
    rw [e1, recv_11 (by rw [w0]; exact z0)]
    have k8 := hI.2.2.2.2.1 i hi
    have c1 := (hc.sW (i := i) (j := j) (w := -1)).sFC (i := i) (m := 8) (w := v.x.FC i 8 - nI 1) (by decide)
    rw [tm1, i32_sub1 (by rw [hc.gK i 8 (by decide)]; omega), hc.gK i 8 (by decide)] at c1
    have m1 := hM.vic (i := i) (j := j) (w := -1) hj
    rw [tm1] at m1
    exact ⟨_, _, _, _, _, _, _, _, c1, T_pdn hi hj hI h11 hl ht, (m1.eqK (fun k n e => w2_nj e)).mono (Nat.le_succ _), hP⟩
end RCV2
