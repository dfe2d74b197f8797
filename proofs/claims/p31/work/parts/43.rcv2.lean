/-! ===== messages to a cache ===== -/
section RCV2
variable {v : Vw} {A : St} {R K S V W : Nat → Nat → Int} {O : Nat → List Nat} {H : Nat → Nat → Int} {N : Nat → Int} {q : Nat → List M7} {i j c d : Nat} {m : M7}
theorem kne {k n : Nat} {a : Int32} (h : a = nI k) (hkn : ¬ nI k = nI n) : ¬ a = nI n := fun e => hkn (h.symm.trans e)
theorem val_toInt (hc : CE v A R K S V W O H q) : (if nI (r_X0_holds v i j) = 0 then v.x.AC i 2 j else v.x.AC i 1 j).toInt = if S i j = 0 then W i j else V i j := by
  by_cases hs : S i j = 0
  · rw [if_pos ((holds_iff hc).mpr hs), if_pos hs, hc.gW]
  · rw [if_neg (fun e => hs ((holds_iff hc).mp e)), if_neg hs, hc.gV]
/-- the message with which a cache answers a forward -/
def mData (v : Vw) (i j : Nat) (mm : M7) : M7 := va_up (va_up (mkM (nI 5) (nI j) (nI i) (mm 6)) 4 (if nI (r_X0_holds v i j) = 0 then v.x.AC i 2 j else v.x.AC i 1 j)) 5 (mm 5)
theorem pass_9 (h : m 0 = nI 9) : s_X0_passOn v i j m = s_X0_drop (vsend v (mData v i j m)) i j := by
  unfold s_X0_passOn
  by_cases z : nI (r_X0_holds v i j) = 0
  · rw [show mData v i j m = va_up (va_up (mkM (nI 5) (nI j) (nI i) (m 6)) 4 (v.x.AC i 2 j)) 5 (m 5) from by unfold mData; rw [if_pos z]]
    exact (if_pos z).trans ((if_pos h).trans rfl)
  · rw [show mData v i j m = va_up (va_up (mkM (nI 5) (nI j) (nI i) (m 6)) 4 (v.x.AC i 1 j)) 5 (m 5) from by unfold mData; rw [if_neg z]]
    exact (if_neg z).trans ((if_pos h).trans rfl)
theorem pass_8 (h : ¬ m 0 = nI 9) : s_X0_passOn v i j m = if v.x.AC i 0 j = nI 3 then vAC (vsend v (mData v i j m)) i 0 (upd ((vsend v (mData v i j m)).x.AC i 0) j (nI 2)) else vsend v (mData v i j m) := by
  unfold s_X0_passOn
  by_cases z : nI (r_X0_holds v i j) = 0
  · rw [show mData v i j m = va_up (va_up (mkM (nI 5) (nI j) (nI i) (m 6)) 4 (v.x.AC i 2 j)) 5 (m 5) from by unfold mData; rw [if_pos z]]
    exact (if_pos z).trans ((if_neg h).trans rfl)
  · rw [show mData v i j m = va_up (va_up (mkM (nI 5) (nI j) (nI i) (m 6)) 4 (v.x.AC i 1 j)) 5 (m 5) from by unfold mData; rw [if_neg z]]
    exact (if_neg z).trans ((if_neg h).trans rfl)
set_option maxHeartbeats 2000000 in
/-- a cache receives a message -/
theorem recv_v (hc : CE v A R K S V W O H q) (hI : InvC R K S V W O H (m :: allq q)) (hV : InvV N R S V W H (m :: allq q)) (hP : PLQ q) (hi : i < 4) (hj : j < 16) (hl : ln m = (j : Int)) (ht : tt m = (i : Int)) : ∃ N', SV (s_X0_receive v i j m) A N' ∧ eff v (s_X0_receive v i j m) N N' := by
  have hwf := hI.1 m List.mem_cons_self
  have hk : 5 ≤ kd m ∧ kd m ≤ 11 := by
    unfold wfm at hwf
    omega
  have kk : ∀ n : Nat, n < 100 → kd m = (n : Int) → m 0 = nI n := fun n hn e => i32_eq.mpr (by rw [nI_toInt (by omega)]; exact e)
  have lk := hI.2.2.1 i hi m List.mem_cons_self
  have rA := hI.2.1 i hi
  unfold rqA at rA
  by_cases h56 : kd m = 5 ∨ kd m = 6
  · have r0 := (lk.2.2.1 h56 ht).1
    have hr0 : R i 0 = (j : Int) := by omega
    have e1 : s_X0_receive v i j m = s_X0_finishIfComplete (vFR (vFR (vFR v i 3 (nI 1)) i 4 (m 4)) i 5 (m 5)) i j := by
      unfold s_X0_receive
      rcases h56 with h | h
      · exact (if_pos (kk 5 (by decide) h)).trans rfl
      · exact (if_neg (kne (kk 6 (by decide) h) (by decide))).trans ((if_pos (kk 6 (by decide) h)).trans rfl)
    rw [e1]
    have c1 := ((hc.sFR (i := i) (m := 3) (w := nI 1)).sFR (i := i) (m := 4) (w := m 4)).sFR (i := i) (m := 5) (w := m 5)
    rw [t1] at c1
    have i1 := T_ans hi hI h56 ht
    have j1 := V_ans hi hj hI hV h56 ht hl
    obtain ⟨N', s1, s2⟩ := fin_v c1 i1 j1 hP hi hj (by rw [w2_nj (by decide), w2_nj (by decide), w2_nj (by decide)]; exact hr0)
    refine ⟨N', s1, s2.from (fun k n hn => ?_)⟩
    rw [c1.2.1, hc.2.1, w2_nj (by omega), w2_nj (by omega), w2_nj (by omega)]
  by_cases h7 : kd m = 7
  · have r0 := lk.2.2.2.2 h7 ht
    have hr0 : R i 0 = (j : Int) := by omega
    have z0 := kk 7 (by decide) h7
    have e1 : s_X0_receive v i j m = s_X0_finishIfComplete (vFR v i 6 (v.x.FR i 6 + nI 1)) i j := by
      unfold s_X0_receive
      exact (if_neg (kne z0 (by decide))).trans ((if_neg (kne z0 (by decide))).trans ((if_pos z0).trans rfl))
    rw [e1]
    have c1 := hc.sFR (i := i) (m := 6) (w := v.x.FR i 6 + nI 1)
    rw [i32_add1 (by rw [hc.gR]; omega), hc.gR] at c1
    obtain ⟨N', s1, s2⟩ := fin_v c1 (T_ack hi hI h7 ht) (V_ack hV h7) hP hi hj (by rw [w2_nj (by decide)]; exact hr0)
    refine ⟨N', s1, s2.from (fun k n hn => ?_)⟩
    rw [c1.2.1, hc.2.1, w2_nj (by omega)]
  have hvt := val_toInt (i := i) (j := j) hc
  by_cases h8 : kd m = 8
  · have z0 := kk 8 (by decide) h8
    obtain ⟨d, hd⟩ : ∃ d : Nat, rq m = (d : Int) := ⟨(rq m).toNat, by unfold wfm at hwf; omega⟩
    have hd4 : d < 4 := by unfold wfm at hwf; omega
    have e1 : s_X0_receive v i j m = s_X0_passOn v i j m := by
      unfold s_X0_receive
      exact (if_neg (kne z0 (by decide))).trans ((if_neg (kne z0 (by decide))).trans ((if_neg (kne z0 (by decide))).trans ((if_pos z0).trans rfl)))
    rw [e1, pass_8 (kne z0 (by decide))]
    have c1 := hc.snd (m := mData v i j m)
    have eC : v.x.AC i 0 j = nI 3 ↔ S i j = 3 := by rw [i32_eq, hc.gS, t3]
    have hI2 : ∀ s : Int, (s = S i j ∨ (S i j = 3 ∧ s = 2)) → InvC R K (w2 S i j s) V W O H (allq (va_up q 16 (q 16 ++ [mData v i j m]))) := fun s hs =>
      (T_fwdS (o := mData v i j m) hi hj hd4 hI h8 hl ht hd hs rfl (tj hj) hd hvt rfl).perm allq_send.symm
    have hV2 : ∀ s : Int, ((S i j ≠ 3 ∧ s = S i j) ∨ (S i j = 3 ∧ s = 2)) → InvV N R (w2 S i j s) V W H (allq (va_up q 16 (q 16 ++ [mData v i j m]))) := fun s hs =>
      (V_fwdS (o := mData v i j m) hi hj hI hV h8 hl ht hd hs rfl (tj hj) hd hvt).perm allq_send.symm
    by_cases hs : S i j = 3
    · rw [if_pos (eC.mpr hs)]
      have c2 := c1.sS (i := i) (j := j) (w := nI 2)
      rw [t2] at c2
      exact ⟨N, ⟨_, _, _, _, _, _, _, _, c2, hI2 2 (Or.inr ⟨hs, rfl⟩), hV2 2 (Or.inr ⟨hs, rfl⟩), hP.way⟩, Or.inl ⟨fun k n _ => by rw [c2.2.1, hc.2.1], rfl⟩⟩
    · rw [if_neg (fun e => hs (eC.mp e))]
      have e3 : w2 S i j (S i j) = S := by
        funext k n
        unfold w2
        split
        · rename_i e
          rw [e.1, e.2]
        · rfl
      have i2 := hI2 (S i j) (Or.inl rfl)
      have j2 := hV2 (S i j) (Or.inl ⟨hs, rfl⟩)
      rw [e3] at i2 j2
      exact ⟨N, ⟨_, _, _, _, _, _, _, _, c1, i2, j2, hP.way⟩, Or.inl ⟨fun k n _ => by rw [c1.2.1, hc.2.1], rfl⟩⟩
  by_cases h9 : kd m = 9
  · have z0 := kk 9 (by decide) h9
    obtain ⟨d, hd⟩ : ∃ d : Nat, rq m = (d : Int) := ⟨(rq m).toNat, by unfold wfm at hwf; omega⟩
    have hd4 : d < 4 := by unfold wfm at hwf; omega
    have e1 : s_X0_receive v i j m = s_X0_passOn v i j m := by
      unfold s_X0_receive
      exact (if_neg (kne z0 (by decide))).trans ((if_neg (kne z0 (by decide))).trans ((if_neg (kne z0 (by decide))).trans ((if_neg (kne z0 (by decide))).trans ((if_pos z0).trans rfl))))
    rw [e1, pass_9 z0]
    have c1 := (hc.snd (m := mData v i j m)).drop hi hj
    have i1 := (T_fwdM (o := mData v i j m) hi hj hd4 hI h9 hl ht hd rfl (tj hj) hd hvt rfl).perm allq_send.symm
    have j1 := (V_fwdM (o := mData v i j m) hi hj hd4 hI hV h9 hl ht hd rfl (tj hj) hd).perm allq_send.symm
    exact ⟨N, ⟨_, _, _, _, _, _, _, _, c1, i1, j1, hP.way⟩, Or.inl ⟨fun k n _ => by rw [c1.2.1, hc.2.1], rfl⟩⟩
  by_cases h10 : kd m = 10
  · have z0 := kk 10 (by decide) h10
    obtain ⟨d, hd⟩ : ∃ d : Nat, rq m = (d : Int) := ⟨(rq m).toNat, by unfold wfm at hwf; omega⟩
    have hd4 : d < 4 := by unfold wfm at hwf; omega
    have eC : v.x.AC i 0 j = nI 1 ↔ S i j = 1 := by rw [i32_eq, hc.gS, t1]
    have e1 : s_X0_receive v i j m = if v.x.AC i 0 j = nI 1 then vsend (s_X0_drop v i j) (mkM (nI 7) (nI j) (nI i) (m 6)) else vsend v (mkM (nI 7) (nI j) (nI i) (m 6)) := by
      unfold s_X0_receive
      exact (if_neg (kne z0 (by decide))).trans ((if_neg (kne z0 (by decide))).trans ((if_neg (kne z0 (by decide))).trans ((if_neg (kne z0 (by decide))).trans ((if_neg (kne z0 (by decide))).trans ((if_pos z0).trans rfl)))))
    have ho : kd (mkM (nI 7) (nI j) (nI i) (m 6)) = 7 := rfl
    have sv := (hI.2.2.2.2.2.2.1 i hi j hj)
    rw [e1]
    by_cases hs : S i j = 1
    · rw [if_pos (eC.mpr hs)]
      have c1 := (hc.drop hi hj).snd (m := mkM (nI 7) (nI j) (nI i) (m 6))
      have i1 := (T_inv (o := mkM (nI 7) (nI j) (nI i) (m 6)) hj hd4 (T_out1 hi hj hI hs) h10 hl hd ho (tj hj) hd).perm allq_send.symm
      have j1 := (V_inv (c := i) (j := j) (o := mkM (nI 7) (nI j) (nI i) (m 6)) (V_drop (c := i) (j := j) hV) h10 hl ht (Or.inl w2_eq) ho).perm allq_send.symm
      exact ⟨N, ⟨_, _, _, _, _, _, _, _, c1, i1, j1, hP.way⟩, Or.inl ⟨fun k n _ => by rw [c1.2.1, hc.2.1], rfl⟩⟩
    · rw [if_neg (fun e => hs (eC.mp e))]
      have c1 := hc.snd (m := mkM (nI 7) (nI j) (nI i) (m 6))
      have i1 := (T_inv (o := mkM (nI 7) (nI j) (nI i) (m 6)) hj hd4 hI h10 hl hd ho (tj hj) hd).perm allq_send.symm
      have j1 := (V_inv (c := i) (j := j) (o := mkM (nI 7) (nI j) (nI i) (m 6)) hV h10 hl ht (by have := sv.1; omega) ho).perm allq_send.symm
      exact ⟨N, ⟨_, _, _, _, _, _, _, _, c1, i1, j1, hP.way⟩, Or.inl ⟨fun k n _ => by rw [c1.2.1, hc.2.1], rfl⟩⟩
  · have h11 : kd m = 11 := by omega
    have z0 := kk 11 (by decide) h11
    have e1 : s_X0_receive v i j m = vFC (vAC v i 2 (upd (v.x.AC i 2) j (-1))) i 8 (v.x.FC i 8 - nI 1) := by
      unfold s_X0_receive
      exact (if_neg (kne z0 (by decide))).trans ((if_neg (kne z0 (by decide))).trans ((if_neg (kne z0 (by decide))).trans ((if_neg (kne z0 (by decide))).trans ((if_neg (kne z0 (by decide))).trans ((if_neg (kne z0 (by decide))).trans ((if_pos z0).trans rfl))))))
    rw [e1]
    have k8 := hI.2.2.2.2.1 i hi
    have c1 := (hc.sW (i := i) (j := j) (w := -1)).sFC (i := i) (m := 8) (w := v.x.FC i 8 - nI 1) (by decide)
    rw [tm1, i32_sub1 (by rw [hc.gK i 8 (by decide)]; omega), hc.gK i 8 (by decide)] at c1
    exact ⟨N, ⟨_, _, _, _, _, _, _, _, c1, T_pdn hi hj hI h11 hl ht, V_pdn hi hj hI hV h11 hl ht, hP⟩, Or.inl ⟨fun k n _ => by rw [c1.2.1, hc.2.1], rfl⟩⟩
end RCV2
