/-! ===== GET_SHARED and GET_MODIFIED at a home ===== -/
section PROC
variable {v : Vw} {A : St} {R K S V W : Nat → Nat → Int} {O : Nat → List Nat} {H : Nat → Nat → Int} {N : Nat → Int} {q : Nat → List M7} {i j c d : Nat} {m : M7}
variable {b r : Int32}
/-- GET_SHARED -/
theorem getS_v (hc : CE v A R K S V W O H q) (hI : InvC R K S V W O H (m :: allq q)) (hV : InvV N R S V W H (m :: allq q)) (hP : PLQ q) (hj : j < 16) (hk : kd m = 1) (hl : ln m = (j : Int)) (hb : H j 6 = 0) : ∃ H' q', CE (s_X1_process v j m) A R K S V W O H' q' ∧ InvC R K S V W O H' (allq q') ∧ InvV N R S V W H' (allq q') ∧ PLQ q' ∧ (∀ k, k ≠ 16 → q' k = q k) := by
  have hwf := hI.1 m List.mem_cons_self
  have h0 : m 0 = nI 1 := i32_eq.mpr hk
  obtain ⟨c, hf⟩ : ∃ c : Nat, fr m = (c : Int) := ⟨(fr m).toNat, by unfold wfm at hwf; omega⟩
  have hc4 : c < 4 := by unfold wfm at hwf; omega
  have e2 : m 2 = nI c := i32_eq.mpr (by rw [nI_toInt (by omega)]; exact hf)
  have g9 := hI.2.2.2.2.2.2.2.2.2.1 j hj
  have hsh : (v.x.FH j 5).toInt = H j 5 := hc.gH j 5
  have hss := (shs (by omega) (by omega) hc4 e2 (sh := v.x.FH j 5)).1
  have hbt := bt_or (by omega) (by omega) hc4 e2 (sh := v.x.FH j 5)
  rw [hsh] at hbt
  have e1 : s_X1_process v j m = s_X1_processRead v j (m 2) := by
    unfold s_X1_process
    exact (if_pos h0).trans rfl
  have c1 := (hc.sFH (i := j) (m := 5) (w := (v.x.FH j 5) ||| ((nI 1) <<< ((m 2) &&& 31)))).sFH (i := j) (m := 6) (w := nI 1)
  rw [t1] at c1
  rw [e1]
  by_cases how : v.x.FH j 4 = -1
  · have hH4 : H j 4 = -1 := by rw [← hc.gH, how]; rfl
    have e3 : s_X1_processRead v j (m 2) = vsend (vFH (vFH v j 5 ((v.x.FH j 5) ||| ((nI 1) <<< ((m 2) &&& 31)))) j 6 (nI 1)) (va_up (mkM (nI 5) (nI j) (-1) (m 2)) 4 (v.x.FH j 3)) := by
      unfold s_X1_processRead
      exact (if_pos how).trans rfl
    rw [e3]
    have i1 := (T_getS0 (o := va_up (mkM (nI 5) (nI j) (-1) (m 2)) 4 (v.x.FH j 3)) hc4 hj hI hk hf hl hb hH4 rfl (tj hj) hf (hc.gH j 3) rfl _ hss.1 hss.2).perm allq_send.symm
    have j1 := (V_getS (o := va_up (mkM (nI 5) (nI j) (-1) (m 2)) 4 (v.x.FH j 3)) hj hI hV hc4 hk hf hl hb (Or.inl ⟨rfl, hH4, hf, hc.gH j 3⟩) (tj hj) _ hbt).perm allq_send.symm
    exact ⟨_, _, c1.snd, i1, j1, hP.way, q_way⟩
  · have hH4 : H j 4 ≠ -1 := fun e => how (i32_eq.mpr (by rw [hc.gH, e]; rfl))
    obtain ⟨d, hd⟩ : ∃ d : Nat, H j 4 = (d : Int) := ⟨(H j 4).toNat, by omega⟩
    have hot : tt (va_up (mkM (nI 8) (nI j) (-1) (v.x.FH j 4)) 6 (m 2)) = (d : Int) := (hc.gH j 4).trans hd
    have hk8 : kd (va_up (mkM (nI 8) (nI j) (-1) (v.x.FH j 4)) 6 (m 2)) = 8 := rfl
    have e3 : s_X1_processRead v j (m 2) = vsend (vFH (vFH v j 5 ((v.x.FH j 5) ||| ((nI 1) <<< ((m 2) &&& 31)))) j 6 (nI 1)) (va_up (mkM (nI 8) (nI j) (-1) (v.x.FH j 4)) 6 (m 2)) := by
      unfold s_X1_processRead
      exact (if_neg how).trans rfl
    rw [e3]
    have i1 := (T_getS1 (o := va_up (mkM (nI 8) (nI j) (-1) (v.x.FH j 4)) 6 (m 2)) hc4 hj hI hk hf hl hb (by omega) hd hk8 (tj hj) hot hf rfl _ hss.1 hss.2).perm allq_send.symm
    have j1 := (V_getS (o := va_up (mkM (nI 8) (nI j) (-1) (v.x.FH j 4)) 6 (m 2)) hj hI hV hc4 hk hf hl hb (Or.inr ⟨hk8, hc.gH j 4⟩) (tj hj) _ hbt).perm allq_send.symm
    exact ⟨_, _, c1.snd, i1, j1, hP.way, q_way⟩
theorem getM_perm {l : List M7} {o : M7} : (allq (va_up q 16 (q 16 ++ l ++ [o]))).Perm (o :: (l ++ allq q)) := by
  have h : (q 16 ++ l ++ [o]).Perm ((o :: l) ++ q 16) := by
    refine (List.perm_append_comm (l₁ := q 16 ++ l) (l₂ := [o])).trans ?_
    exact (List.perm_append_comm (l₁ := q 16) (l₂ := l)).cons o
  exact allq_way h
theorem cW_0 {L : Vw} {bc : Int32} (hL : lp_X1_processWrite_32 v j r v 4 = L) (hbc : bitc (oth v j r) = bc) (how : L.x.FH j 4 = -1) : s_X1_processWrite v j r = vsend (vFH (vFH (vFH L j 4 r) j 5 (nI 0)) j 6 (nI 1)) (va_up (va_up (mkM (nI 5) (nI j) (-1) r) 4 (L.x.FH j 3)) 5 bc) := by
  unfold s_X1_processWrite
  rw [hL, hbc]
  exact (if_pos how).trans rfl
theorem cW_1 {L : Vw} {bc : Int32} (hL : lp_X1_processWrite_32 v j r v 4 = L) (hbc : bitc (oth v j r) = bc) (hn : ¬ L.x.FH j 4 = -1) (how : L.x.FH j 4 = r) : s_X1_processWrite v j r = vsend (vFH (vFH (vFH L j 4 r) j 5 (nI 0)) j 6 (nI 1)) (va_up (mkM (nI 6) (nI j) (-1) r) 5 bc) := by
  unfold s_X1_processWrite
  rw [hL, hbc]
  exact (if_neg hn).trans ((if_pos how).trans rfl)
theorem cW_2 {L : Vw} {bc : Int32} (hL : lp_X1_processWrite_32 v j r v 4 = L) (hbc : bitc (oth v j r) = bc) (hn : ¬ L.x.FH j 4 = -1) (how : ¬ L.x.FH j 4 = r) : s_X1_processWrite v j r = vsend (vFH (vFH (vFH L j 4 r) j 5 (nI 0)) j 6 (nI 1)) (va_up (va_up (mkM (nI 9) (nI j) (-1) (L.x.FH j 4)) 6 r) 5 bc) := by
  unfold s_X1_processWrite
  rw [hL, hbc]
  exact (if_neg hn).trans ((if_neg how).trans rfl)
/-- who is told -/
theorem ivs_all {B : Int32} {j : Nat} {r : Int32} (hj : j < 16) {i : Nat} (hi : i < 4) (h : ((B >>> ((nI i) &&& 31)) &&& (nI 1)) = (nI 1)) : ivM (ivs B j r 4) i j := by
  refine ⟨va_up (mkM (nI 10) (nI j) (-1) (nI i)) 6 r, ?_, rfl, nI_toInt (n := i) (by omega), tj hj⟩
  unfold ivs
  exact List.mem_map.mpr ⟨i, List.mem_filter.mpr ⟨List.mem_range.mpr hi, by unfold bset; exact decide_eq_true h⟩, rfl⟩
set_option maxHeartbeats 2000000 in
/-- GET_MODIFIED -/
theorem getM_v (hc : CE v A R K S V W O H q) (hI : InvC R K S V W O H (m :: allq q)) (hV : InvV N R S V W H (m :: allq q)) (hP : PLQ q) (hj : j < 16) (hk : kd m = 2) (hl : ln m = (j : Int)) (hb : H j 6 = 0) : ∃ H' q', CE (s_X1_process v j m) A R K S V W O H' q' ∧ InvC R K S V W O H' (allq q') ∧ InvV N R S V W H' (allq q') ∧ PLQ q' ∧ (∀ k, k ≠ 16 → q' k = q k) := by
  have hwf := hI.1 m List.mem_cons_self
  have h0 : m 0 = nI 2 := i32_eq.mpr hk
  obtain ⟨c, hf⟩ : ∃ c : Nat, fr m = (c : Int) := ⟨(fr m).toNat, by unfold wfm at hwf; omega⟩
  have hc4 : c < 4 := by unfold wfm at hwf; omega
  have e2 : m 2 = nI c := i32_eq.mpr (by rw [nI_toInt (by omega)]; exact hf)
  have g9 := hI.2.2.2.2.2.2.2.2.2.1 j hj
  have hsh : (v.x.FH j 5).toInt = H j 5 := hc.gH j 5
  have hown : v.x.FH j 4 = -1 ∨ ∃ d : Nat, d < 4 ∧ v.x.FH j 4 = nI d := by
    have e4 := hc.gH j 4
    by_cases z : H j 4 = -1
    · exact Or.inl (i32_eq.mpr (by rw [e4, z]; rfl))
    · exact Or.inr ⟨(H j 4).toNat, by omega, i32_eq.mpr (by rw [e4, nI_toInt (by omega)]; omega)⟩
  have hoth : oth v j (m 2) = ob (v.x.FH j 5) (m 2) (v.x.FH j 4) := rfl
  obtain ⟨b1, b2⟩ := bits (j := j) (by omega) (by omega) hc4 e2 hown (sh := v.x.FH j 5)
  have b3 := bt_is (sh := v.x.FH j 5) (by omega) (by omega)
  rw [hsh] at b3
  rw [← hoth] at b1 b2
  have e1 : s_X1_process v j m = s_X1_processWrite v j (m 2) := by
    unfold s_X1_process
    exact (if_neg (kne h0 (by decide))).trans ((if_pos h0).trans rfl)
  have cl := cinv (j := j) (r := m 2) hc rfl 4
  generalize hLc : lp_X1_processWrite_32 v j (m 2) v 4 = Lc at cl
  generalize hB : oth v j (m 2) = B at b1 b2 cl
  have zz4 : Lc.x.FH j 4 = v.x.FH j 4 := i32_eq.mpr (by rw [cl.gH, hc.gH])
  have zz3 : Lc.x.FH j 3 = v.x.FH j 3 := i32_eq.mpr (by rw [cl.gH, hc.gH])
  have c1 := ((cl.sFH (i := j) (m := 4) (w := m 2)).sFH (i := j) (m := 5) (w := nI 0)).sFH (i := j) (m := 6) (w := nI 1)
  rw [t1, t0, show (m 2).toInt = (c : Int) from hf] at c1
  have hil := ivs_len (b := B) (j := j) (r := m 2) (n := 4)
  generalize hbc : bitc B = bc at b1
  have hb1 : bc = nI (ivs B j (m 2) 4).length := b1
  have iv1 : ∀ z ∈ ivs B j (m 2) 4, kd z = 10 ∧ rq z = (c : Int) := fun z hz => by
    obtain ⟨k1, k2, k3, k4, k5⟩ := ivs_mem (Nat.le_refl 4) hj z hz
    exact ⟨k1, k3.trans hf⟩
  have iv2 : ∀ z ∈ ivs B j (m 2) 4, ln z = (j : Int) ∧ 0 ≤ tt z ∧ tt z < 4 := fun z hz => by
    obtain ⟨k1, k2, k3, k4, k5⟩ := ivs_mem (Nat.le_refl 4) hj z hz
    exact ⟨k2, k4, k5⟩
  have iv3 : ∀ i : Nat, i < 4 → i ≠ c → H j 4 ≠ (i : Int) → bt (H j 5) i → ivM (ivs B j (m 2) 4) i j := fun i hi n1 n2 n3 => by
    refine ivs_all hj hi ((b2 i hi).mpr ⟨b3 i hi n3, fun e => n1 ?_, fun e => n2 ?_⟩)
    · rw [e2] at e
      exact (nI_eq (by omega) (by omega)).mp e
    · rw [← hc.gH j 4, ← e, nI_toInt (by omega)]
  have hct : (bc).toInt = ((ivs B j (m 2) 4).length : Int) := by rw [hb1, nI_toInt (by omega)]
  rw [e1]
  rcases (show v.x.FH j 4 = -1 ∨ (¬ v.x.FH j 4 = -1 ∧ v.x.FH j 4 = m 2) ∨ (¬ v.x.FH j 4 = -1 ∧ ¬ v.x.FH j 4 = m 2) from Decidable.byCases (fun h : v.x.FH j 4 = -1 => Or.inl h) (fun h => Or.inr (Decidable.byCases (fun h2 : v.x.FH j 4 = m 2 => Or.inl ⟨h, h2⟩) (fun h2 => Or.inr ⟨h, h2⟩)))) with how | ⟨hn, how⟩ | ⟨hn, how⟩
  · have hH4 : H j 4 = -1 := by rw [← hc.gH, how]; rfl
    have e3 := cW_0 (j := j) (r := m 2) (bc := bc) hLc (by rw [hB]; exact hbc) (zz4.trans how)
    rw [e3]
    have i1 := (T_getM0 (o := va_up (va_up (mkM (nI 5) (nI j) (-1) (m 2)) 4 (Lc.x.FH j 3)) 5 (bc)) hc4 hj hI hk hf hl hb hH4 (ivs B j (m 2) 4) iv1 iv2 hil rfl hf ((congrArg Int32.toInt zz3).trans (hc.gH j 3)) (tj hj) hct).perm getM_perm.symm
    have j1 := (V_getM (o := va_up (va_up (mkM (nI 5) (nI j) (-1) (m 2)) 4 (Lc.x.FH j 3)) 5 (bc)) hj hI hV hc4 hk hf hl hb iv1 iv3 (Or.inl rfl) (fun _ => hf) (tj hj) (fun i _ _ q => by omega)).perm getM_perm.symm
    have c2 := c1.snd (m := va_up (va_up (mkM (nI 5) (nI j) (-1) (m 2)) 4 (Lc.x.FH j 3)) 5 (bc))
    rw [va_up2, va_up_self] at c2
    exact ⟨_, _, c2, i1, j1, hP.way, q_way⟩
  · have hH4 : H j 4 = (c : Int) := by rw [← hc.gH, how]; exact hf
    have ho : kd (va_up (mkM (nI 6) (nI j) (-1) (m 2)) 5 (bc)) = 6 := rfl
    have e3 := cW_1 (j := j) (r := m 2) (bc := bc) hLc (by rw [hB]; exact hbc) (fun e => hn (zz4.symm.trans e)) (zz4.trans how)
    rw [e3]
    have i1 := (T_getM1 (o := va_up (mkM (nI 6) (nI j) (-1) (m 2)) 5 (bc)) hc4 hj hI hk hf hl hb hH4 (ivs B j (m 2) 4) iv1 iv2 hil ho hf (tj hj) hct).perm getM_perm.symm
    have j1 := (V_getM (o := va_up (mkM (nI 6) (nI j) (-1) (m 2)) 5 (bc)) hj hI hV hc4 hk hf hl hb iv1 iv3 (Or.inr (Or.inl ho)) (fun _ => hf) (tj hj) (fun i _ n q => by omega)).perm getM_perm.symm
    have c2 := c1.snd (m := va_up (mkM (nI 6) (nI j) (-1) (m 2)) 5 (bc))
    rw [va_up2, va_up_self] at c2
    exact ⟨_, _, c2, i1, j1, hP.way, q_way⟩
  · have hH4 : H j 4 ≠ -1 := fun e => hn (i32_eq.mpr (by rw [hc.gH, e]; rfl))
    obtain ⟨d, hd⟩ : ∃ d : Nat, H j 4 = (d : Int) := ⟨(H j 4).toNat, by omega⟩
    have ho : kd (va_up (va_up (mkM (nI 9) (nI j) (-1) (Lc.x.FH j 4)) 6 (m 2)) 5 (bc)) = 9 := rfl
    have hot : tt (va_up (va_up (mkM (nI 9) (nI j) (-1) (Lc.x.FH j 4)) 6 (m 2)) 5 (bc)) = (d : Int) := (congrArg Int32.toInt zz4).trans ((hc.gH j 4).trans hd)
    have e3 := cW_2 (j := j) (r := m 2) (bc := bc) hLc (by rw [hB]; exact hbc) (fun e => hn (zz4.symm.trans e)) (fun e => how (zz4.symm.trans e))
    rw [e3]
    have i1 := (T_getM2 (o := va_up (va_up (mkM (nI 9) (nI j) (-1) (Lc.x.FH j 4)) 6 (m 2)) 5 (bc)) hc4 hj hI hk hf hl hb (by omega) hd (ivs B j (m 2) 4) iv1 iv2 hil ho hot hf (tj hj) hct).perm getM_perm.symm
    have j1 := (V_getM (o := va_up (va_up (mkM (nI 9) (nI j) (-1) (Lc.x.FH j 4)) 6 (m 2)) 5 (bc)) hj hI hV hc4 hk hf hl hb iv1 iv3 (Or.inr (Or.inr ho)) (fun q => by omega) (tj hj) (fun i _ _ q => ⟨ho, by omega⟩)).perm getM_perm.symm
    have c2 := c1.snd (m := va_up (va_up (mkM (nI 9) (nI j) (-1) (Lc.x.FH j 4)) 6 (m 2)) 5 (bc))
    rw [va_up2, va_up_self] at c2
    exact ⟨_, _, c2, i1, j1, hP.way, q_way⟩
/-- a home processes a message -/
theorem process_v (hc : CE v A R K S V W O H q) (hI : InvC R K S V W O H (m :: allq q)) (hV : InvV N R S V W H (m :: allq q)) (hP : PLQ q) (hj : j < 16) (hk : 1 ≤ kd m ∧ kd m ≤ 3) (hl : ln m = (j : Int)) (hb : H j 6 = 0) : ∃ H' q', CE (s_X1_process v j m) A R K S V W O H' q' ∧ InvC R K S V W O H' (allq q') ∧ InvV N R S V W H' (allq q') ∧ PLQ q' ∧ (∀ k, k ≠ 16 → q' k = q k) := by
  rcases (show kd m = 1 ∨ kd m = 2 ∨ kd m = 3 by omega) with h | h | h
  · exact getS_v hc hI hV hP hj h hl hb
  · exact getM_v hc hI hV hP hj h hl hb
  · exact put_v hc hI hV hP hj h hl hb
end PROC
