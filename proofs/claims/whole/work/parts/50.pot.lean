/-! ===== how much a message can still cost ===== -/
def wW (m : M7) : Nat := if kd m = 1 then 8 else if kd m = 2 then 32 else if kd m = 3 then 5 else if kd m = 4 then 1 else if kd m = 11 then 2 else if kd m = 5 ∨ kd m = 6 ∨ kd m = 7 then 3 else 5
def wQ (m : M7) : Nat := if kd m = 1 then 6 else if kd m = 2 then 30 else if kd m = 3 then 3 else 0
def PH (q : Nat → List M7) : Nat := ((q 16).map wW).sum + zN 16 (fun j => ((q j).map wQ).sum)
section POT
variable {v : Vw} {x y A : St} {q : Nat → List M7} {i j k T : Nat} {m : M7} {b r w tw : Int32}
theorem PH_way {l : List M7} : PH (va_up q 16 l) + ((q 16).map wW).sum = PH q + (l.map wW).sum := by
  have e : zN 16 (fun j => ((va_up q 16 l j).map wQ).sum) = zN 16 (fun j => ((q j).map wQ).sum) := by
    unfold zN
    congr 1
  unfold PH
  rw [e, va_up_self]
  omega
theorem PH_snd : PH (vsend v m).q = PH v.q + wW m := by
  have h := PH_way (q := v.q) (l := v.q 16 ++ [m])
  rw [List.map_append, List.sum_append] at h
  have e : ([m].map wW).sum = wW m := by simp
  rw [e] at h
  show PH (va_up v.q 16 (v.q 16 ++ [m])) = _
  omega
theorem zN_up {f g : Nat → Nat} {j : Nat} (h : ∀ k, k ≠ j → g k = f k) : ∀ n, j < n → zN n g + f j = zN n f + g j := by
  intro n
  induction n with
  | zero => exact fun h => absurd h (Nat.not_lt_zero _)
  | succ n ih =>
    intro hj
    rw [zN_succ, zN_succ]
    by_cases e : n = j
    · subst e
      have : zN n g = zN n f := Nat.le_antisymm (zN_mono (fun k hk => Nat.le_of_eq (h k (by omega)))) (zN_mono (fun k hk => Nat.le_of_eq (h k (by omega)).symm))
      omega
    · rw [h n e]
      have := ih (by omega)
      omega
theorem PH_que {l : List M7} (hj : j < 16) : PH (va_up q j l) + ((q j).map wQ).sum = PH q + (l.map wQ).sum := by
  have e := zN_up (f := fun k => ((q k).map wQ).sum) (g := fun k => ((va_up q j l k).map wQ).sum) (j := j) (fun k hk => by simp only [va_up_ne _ _ hk]) 16 hj
  simp only [va_up_self] at e
  unfold PH
  rw [va_up_ne _ _ (show (16:Nat) ≠ j by omega)]
  omega
theorem wk {n : Nat} (hn : n < 100) : m 0 = nI n ↔ kd m = (n : Int) := by
  rw [i32_eq, nI_toInt (by omega)]
  exact Iff.rfl
theorem lp_q {n : Nat} : (lp_X0_leaveUseOrder_4 v i j 0 v n).2.q = v.q := by
  induction n with
  | zero => rfl
  | succ n ih =>
    unfold lp_X0_leaveUseOrder_4
    split
    · exact ih
    · exact ih
theorem leave_q : (s_X0_leaveUseOrder v i j).q = v.q := lp_q (n := nat (v.x.FC i 7))
theorem drop_q : (s_X0_drop v i j).q = v.q := by
  unfold s_X0_drop
  exact leave_q
theorem mark_q : (s_X0_markUsed v i j).q = v.q := by
  unfold s_X0_markUsed
  split
  · exact leave_q
  · exact leave_q
theorem store_q : (s_X0_store v i j b r).q = v.q := by
  unfold s_X0_store
  exact mark_q
theorem out_pot : PH (s_X0_moveOut v i j).q ≤ PH v.q + 5 := by
  by_cases h : v.x.AC i 0 j = nI 1
  · have : s_X0_moveOut v i j = s_X0_drop v i j := by
      unfold s_X0_moveOut
      exact (if_pos h).trans rfl
    rw [this, drop_q]
    omega
  · rw [moveOut_eq h, drop_q, PH_snd]
    have : wW (va_up (mkM (nI 3) (nI j) (nI i) (-1)) 4 (v.x.AC i 1 j)) = 5 := rfl
    rw [this]
    exact Nat.le_refl _
theorem opn_q : (cOpn v i j w tw).q = v.q := rfl
theorem start_pot : PH (s_X0_startRequest v i j w tw).q ≤ PH v.q + 37 := by
  have w1 : wW (mkM (nI 1) (nI j) (nI i) (-1)) = 8 := rfl
  have w2 : wW (mkM (nI 2) (nI j) (nI i) (-1)) = 32 := rfl
  have ho := out_pot (v := v) (i := i) (j := nat (v.x.AC i 3 0))
  rw [cstart_eq]
  split <;> split <;> rw [PH_snd, opn_q] <;> omega
theorem read_pot : PH (s_X5_read v i j).q ≤ PH v.q + 37 := by
  unfold s_X5_read
  split
  · exact start_pot
  · show PH (s_X0_markUsed _ i j).q ≤ _
    rw [mark_q]
    exact Nat.le_add_right _ _
theorem write_pot {n : Nat} : PH (s_X5_write v i j n).q ≤ PH v.q + 37 := by
  unfold s_X5_write
  split
  · show PH (s_X0_store _ i j _ _).q ≤ _
    rw [store_q]
    exact Nat.le_add_right _ _
  · exact start_pot
theorem evict_pot : PH (s_X5_evict v i j).q ≤ PH v.q + 37 := Nat.le_trans out_pot (by omega)
theorem room_pot {a b : Nat} : PH (s_X5_setRoom v i a b).q = PH v.q := by
  unfold s_X5_setRoom
  split
  · split <;> rfl
  · rfl
theorem fin_pot : PH (s_X0_finishIfComplete v i j).q ≤ PH v.q + 1 := by
  have w4 : wW (mkM (nI 4) (nI j) (nI i) (-1)) = 1 := rfl
  by_cases h1 : nI (r_X4_isComplete v i) = 0
  · have : s_X0_finishIfComplete v i j = v := by
      unfold s_X0_finishIfComplete
      exact if_pos h1
    rw [this]
    omega
  · by_cases h2 : v.x.FR i 1 = 0
    · rw [finish_r h1 h2, PH_snd, w4]
      show PH (s_X0_store v i j _ _).q + 1 ≤ _
      rw [store_q]
      exact Nat.le_refl _
    · rw [finish_w h1 h2, PH_snd, w4]
      show PH (s_X0_store v i j _ _).q + 1 ≤ _
      rw [store_q]
      exact Nat.le_refl _
theorem pass_pot : PH (s_X0_passOn v i j m).q ≤ PH v.q + 3 := by
  have w5 : wW (mData v i j m) = 3 := rfl
  by_cases h : m 0 = nI 9
  · rw [pass_9 h, drop_q, PH_snd, w5]
    exact Nat.le_refl _
  · rw [pass_8 h]
    split
    · show PH (vsend v (mData v i j m)).q ≤ _
      rw [PH_snd, w5]
      exact Nat.le_refl _
    · rw [PH_snd, w5]
      exact Nat.le_refl _
theorem recv_pot (hk : 5 ≤ kd m ∧ kd m ≤ 11) : PH (s_X0_receive v i j m).q + 2 ≤ PH v.q + wW m := by
  have w7 : wW (mkM (nI 7) (nI j) (nI i) (m 6)) = 3 := rfl
  unfold s_X0_receive
  by_cases h5 : kd m = 5
  · rw [if_pos ((wk (n := 5) (by decide)).mpr h5)]
    have := fin_pot (v := vFR (vFR (vFR v i 3 (nI 1)) i 4 (m 4)) i 5 (m 5)) (i := i) (j := j)
    have e : wW m = 3 := by simp [wW, h5]
    rw [e]
    show PH (s_X0_finishIfComplete (vFR (vFR (vFR v i 3 (nI 1)) i 4 (m 4)) i 5 (m 5)) i j).q + 2 ≤ _
    have e2 : PH (vFR (vFR (vFR v i 3 (nI 1)) i 4 (m 4)) i 5 (m 5)).q = PH v.q := rfl
    omega
  rw [if_neg (fun e => h5 ((wk (n := 5) (by decide)).mp e))]
  by_cases h6 : kd m = 6
  · rw [if_pos ((wk (n := 6) (by decide)).mpr h6)]
    have := fin_pot (v := vFR (vFR (vFR v i 3 (nI 1)) i 4 (m 4)) i 5 (m 5)) (i := i) (j := j)
    have e : wW m = 3 := by simp [wW, h6]
    rw [e]
    show PH (s_X0_finishIfComplete (vFR (vFR (vFR v i 3 (nI 1)) i 4 (m 4)) i 5 (m 5)) i j).q + 2 ≤ _
    have e2 : PH (vFR (vFR (vFR v i 3 (nI 1)) i 4 (m 4)) i 5 (m 5)).q = PH v.q := rfl
    omega
  rw [if_neg (fun e => h6 ((wk (n := 6) (by decide)).mp e))]
  by_cases h7 : kd m = 7
  · rw [if_pos ((wk (n := 7) (by decide)).mpr h7)]
    have := fin_pot (v := vFR v i 6 (v.x.FR i 6 + nI 1)) (i := i) (j := j)
    have e : wW m = 3 := by simp [wW, h7]
    rw [e]
    show PH (s_X0_finishIfComplete (vFR v i 6 (v.x.FR i 6 + nI 1)) i j).q + 2 ≤ _
    have e2 : PH (vFR v i 6 (v.x.FR i 6 + nI 1)).q = PH v.q := rfl
    omega
  rw [if_neg (fun e => h7 ((wk (n := 7) (by decide)).mp e))]
  have hp := pass_pot (v := v) (i := i) (j := j) (m := m)
  by_cases h8 : kd m = 8
  · rw [if_pos ((wk (n := 8) (by decide)).mpr h8)]
    have e : wW m = 5 := by simp [wW, h8]
    rw [e]
    show PH (s_X0_passOn v i j m).q + 2 ≤ _
    omega
  rw [if_neg (fun e => h8 ((wk (n := 8) (by decide)).mp e))]
  by_cases h9 : kd m = 9
  · rw [if_pos ((wk (n := 9) (by decide)).mpr h9)]
    have e : wW m = 5 := by simp [wW, h9]
    rw [e]
    show PH (s_X0_passOn v i j m).q + 2 ≤ _
    omega
  rw [if_neg (fun e => h9 ((wk (n := 9) (by decide)).mp e))]
  by_cases h10 : kd m = 10
  · rw [if_pos ((wk (n := 10) (by decide)).mpr h10)]
    have e : wW m = 5 := by simp [wW, h10]
    rw [e]
    split
    · show PH (vsend (s_X0_drop v i j) (mkM (nI 7) (nI j) (nI i) (m 6))).q + 2 ≤ _
      rw [PH_snd, drop_q, w7]
      exact Nat.le_refl _
    · show PH (vsend v (mkM (nI 7) (nI j) (nI i) (m 6))).q + 2 ≤ _
      rw [PH_snd, w7]
      exact Nat.le_refl _
  rw [if_neg (fun e => h10 ((wk (n := 10) (by decide)).mp e))]
  have h11 : kd m = 11 := by omega
  rw [if_pos ((wk (n := 11) (by decide)).mpr h11)]
  have e : wW m = 2 := by simp [wW, h11]
  rw [e]
  exact Nat.le_refl _
theorem lpw_pot {n : Nat} : PH (lp_X1_processWrite_32 v j r v n).q ≤ PH v.q + 5 * n := by
  induction n with
  | zero =>
    show PH v.q ≤ PH v.q + 5 * 0
    omega
  | succ n ih =>
    have w10 : wW (va_up (mkM (nI 10) (nI j) (-1) (nI n)) 6 r) = 5 := rfl
    unfold lp_X1_processWrite_32
    split
    · show PH (vsend _ (va_up (mkM (nI 10) (nI j) (-1) (nI n)) 6 r)).q ≤ _
      rw [PH_snd, w10]
      omega
    · omega
theorem readp_pot : PH (s_X1_processRead v j r).q ≤ PH v.q + 5 := by
  unfold s_X1_processRead
  split
  · show PH (vsend (vFH (vFH v j 5 _) j 6 (nI 1)) (va_up (mkM (nI 5) (nI j) (-1) r) 4 (v.x.FH j 3))).q ≤ _
    rw [PH_snd]
    have : wW (va_up (mkM (nI 5) (nI j) (-1) r) 4 (v.x.FH j 3)) = 3 := rfl
    rw [this]
    exact Nat.add_le_add_left (by decide) _
  · show PH (vsend (vFH (vFH v j 5 _) j 6 (nI 1)) (va_up (mkM (nI 8) (nI j) (-1) (v.x.FH j 4)) 6 r)).q ≤ _
    rw [PH_snd]
    have : wW (va_up (mkM (nI 8) (nI j) (-1) (v.x.FH j 4)) 6 r) = 5 := rfl
    rw [this]
    exact Nat.le_refl _
theorem writep_pot : PH (s_X1_processWrite v j r).q ≤ PH v.q + 25 := by
  have hl := lpw_pot (v := v) (j := j) (r := r) (n := 4)
  generalize hL : lp_X1_processWrite_32 v j r v 4 = L at hl
  have e : ∀ o : M7, PH (vsend (vFH (vFH (vFH L j 4 r) j 5 (nI 0)) j 6 (nI 1)) o).q = PH L.q + wW o := fun o => PH_snd
  by_cases h1 : L.x.FH j 4 = -1
  · rw [cW_0 hL rfl h1, e]
    have : wW (va_up (va_up (mkM (nI 5) (nI j) (-1) r) 4 (L.x.FH j 3)) 5 (bitc (oth v j r))) = 3 := rfl
    omega
  · by_cases h2 : L.x.FH j 4 = r
    · rw [cW_1 hL rfl h1 h2, e]
      have : wW (va_up (mkM (nI 6) (nI j) (-1) r) 5 (bitc (oth v j r))) = 3 := rfl
      omega
    · rw [cW_2 hL rfl h1 h2, e]
      have : wW (va_up (va_up (mkM (nI 9) (nI j) (-1) (L.x.FH j 4)) 6 r) 5 (bitc (oth v j r))) = 5 := rfl
      omega
theorem putp_pot : PH (s_X1_processPut v j m).q ≤ PH v.q + 2 := by
  have e : wW (mkM (nI 11) (nI j) (-1) (m 2)) = 2 := rfl
  unfold s_X1_processPut
  split
  · show PH (vsend _ (mkM (nI 11) (nI j) (-1) (m 2))).q ≤ _
    rw [PH_snd, e]
    exact Nat.le_refl _
  · show PH (vsend _ (mkM (nI 11) (nI j) (-1) (m 2))).q ≤ _
    rw [PH_snd, e]
    exact Nat.le_refl _
theorem proc_pot : uP (m 0) + PH (s_X1_process v j m).q ≤ PH v.q + wQ m := by
  unfold s_X1_process uP
  by_cases h1 : kd m = 1
  · have z := (wk (n := 1) (by decide)).mpr h1
    have e : wQ m = 6 := by simp [wQ, h1]
    rw [if_pos z, if_pos z, e]
    have := readp_pot (v := v) (j := j) (r := m 2)
    show 1 + PH (s_X1_processRead v j (m 2)).q ≤ _
    omega
  have z1 : ¬ m 0 = nI 1 := fun e => h1 ((wk (n := 1) (by decide)).mp e)
  rw [if_neg z1, if_neg z1]
  by_cases h2 : kd m = 2
  · have z := (wk (n := 2) (by decide)).mpr h2
    have e : wQ m = 30 := by simp [wQ, h2]
    rw [if_pos z, if_pos z, e]
    have := writep_pot (v := v) (j := j) (r := m 2)
    show 5 + PH (s_X1_processWrite v j (m 2)).q ≤ _
    omega
  have z2 : ¬ m 0 = nI 2 := fun e => h2 ((wk (n := 2) (by decide)).mp e)
  rw [if_neg z2, if_neg z2]
  by_cases h3 : kd m = 3
  · have z := (wk (n := 3) (by decide)).mpr h3
    have e : wQ m = 3 := by simp [wQ, h3]
    rw [if_pos z, if_pos z, e]
    have := putp_pot (v := v) (j := j) (m := m)
    show 1 + PH (s_X1_processPut v j m).q ≤ _
    omega
  have z3 : ¬ m 0 = nI 3 := fun e => h3 ((wk (n := 3) (by decide)).mp e)
  rw [if_neg z3, if_neg z3]
  omega
theorem lR_pot (hj : j < 16) : ∀ (n : Nat) (w : Vw), uL j n w + PH (lR j n w).q ≤ PH w.q := by
  intro n
  induction n with
  | zero => exact fun w => by unfold uL lR; omega
  | succ n ih =>
    intro w
    unfold uL lR
    by_cases h1 : w.x.FH j 6 = 0
    · rw [if_pos h1, if_pos h1]
      by_cases h2 : (w.q j).length = 0
      · rw [if_pos h2, if_pos h2]
        omega
      · rw [if_neg h2, if_neg h2]
        obtain ⟨m, l, hm⟩ : ∃ m l, w.q j = m :: l := by
          cases hq : w.q j with
          | nil => rw [hq] at h2; exact absurd rfl h2
          | cons a b => exact ⟨a, b, rfl⟩
        have es : stp w j = s_X1_process (vq w j l) j m := by
          unfold stp
          rw [(mat_q hm).1, (mat_q hm).2]
        have i1 := ih (stp w j)
        rw [es] at i1 ⊢
        rw [(mat_q hm).1]
        have i2 := proc_pot (v := vq w j l) (j := j) (m := m)
        have i3 := PH_que (q := w.q) (j := j) (l := l) hj
        have e : PH (vq w j l).q = PH (va_up w.q j l) := rfl
        rw [hm, List.map_cons, List.sum_cons] at i3
        omega
    · rw [if_neg h1, if_neg h1]
      omega
/-- a delivery: what it costs, and what can still come -/
theorem hand_pot (h : SM v x A T) (hk : k < (v.q 16).length) : uH v k + PH (s_handOver v k).q + 1 ≤ PH v.q := by
  obtain ⟨R, K, S, V, W, O, H, q, hc, hI, hM, hP⟩ := h
  have hvq := hc.gq
  have hmk : (v.q 16)[k]? = some (v.q 16)[k] := List.getElem?_eq_getElem hk
  generalize (v.q 16)[k] = m at hmk
  have hmat : mat v 16 k = m := by
    unfold mat
    rw [hmk]
    rfl
  have hmem : m ∈ allq q := List.mem_append_left _ (by rw [← hvq]; exact List.mem_of_getElem? hmk)
  have hwf := hI.1 m hmem
  obtain ⟨j, hj, j1, j2, j3, jt⟩ := msg_at hwf
  have hrm : PH (rmv v k).q + wW m = PH v.q := by
    have e := PH_way (q := v.q) (l := (v.q 16).eraseIdx k)
    have p := (erase_perm hmk).map wW
    have p2 := p.sum_nat
    rw [List.map_cons, List.sum_cons] at p2
    have e2 : PH (rmv v k).q = PH (va_up v.q 16 ((v.q 16).eraseIdx k)) := rfl
    omega
  unfold uH s_handOver
  rw [hmat, j2]
  generalize rmv v k = u at hrm
  rcases jt with ⟨t3, tk1, tk2⟩ | ⟨t3, i, hi, t4, t5, t6⟩
  · rw [if_pos t3, if_pos t3]
    unfold uR s_X1_receive
    by_cases h4 : kd m = 4
    · have z := (wk (n := 4) (by decide)).mpr h4
      have e : wW m = 1 := by simp [wW, h4]
      rw [if_pos z, if_pos z]
      have := lR_pot hj (u.q j).length (vFH u j 6 (nI 0))
      have e2 : PH (vFH u j 6 (nI 0)).q = PH u.q := rfl
      omega
    · have z : ¬ m 0 = nI 4 := fun e => h4 ((wk (n := 4) (by decide)).mp e)
      have ew : wW m = wQ m + 2 := by
        rcases (show kd m = 1 ∨ kd m = 2 ∨ kd m = 3 by omega) with e | e | e <;> simp [wW, wQ, e]
      rw [if_neg z, if_neg z]
      by_cases hb : u.x.FH j 6 = 0
      · rw [if_pos hb, if_pos hb]
        have := proc_pot (v := u) (j := j) (m := m)
        omega
      · rw [if_neg hb, if_neg hb]
        have i3 := PH_que (q := u.q) (j := j) (l := u.q j ++ [m]) hj
        rw [List.map_append, List.sum_append] at i3
        have e : ([m].map wQ).sum = wQ m := by simp
        rw [e] at i3
        have e2 : PH (vq u j (u.q j ++ [m])).q = PH (va_up u.q j (u.q j ++ [m])) := rfl
        omega
  · rw [if_neg t3, if_neg t3, t5]
    have hk2 : 5 ≤ kd m ∧ kd m ≤ 11 := by
      unfold wfm at hwf
      omega
    have := recv_pot (v := u) (i := i) (j := j) hk2
    omega
/-- many deliveries -/
theorem settle_sim {z : St} {n0 : Nat} : ∀ (n a : Nat) (v : Vw) (x : St) (T : Nat), SM v x A T → T + PH v.q < 2 ^ 31 - 1 → SM (sN n v) (lq_X6_settle_ok_24 z n0 n a x).2 A (T + cN n v) ∧ (lq_X6_settle_ok_24 z n0 n a x).1 = a + cN n v ∧ (∀ t, t ≤ n → CI (sN t v)) ∧ uN n v + PH (sN n v).q + cN n v ≤ PH v.q ∧ cN n v ≤ n := by
  intro n
  induction n with
  | zero =>
    intro a v x T h hT
    refine ⟨h, rfl, fun t ht => ?_, ?_, Nat.le_refl _⟩
    · rw [show t = 0 by omega]
      exact h.ci
    · unfold uN sN cN
      omega
  | succ n ih =>
    intro a v x T h hT
    have hx4 : x.FM 4 ≤ 0 ↔ (v.q 16).length = 0 := by
      obtain ⟨R, K, S, V, W, O, H, q, hc, hI, hM, hP⟩ := h
      have hlen := hI.len
      unfold allq at hlen
      rw [List.length_append] at hlen
      rw [i32_le0, hM.2.2.2.2.2.2.1.1, nI_toInt (by omega), hc.gq]
      omega
    unfold lq_X6_settle_ok_24
    by_cases h0 : (v.q 16).length = 0
    · have es : sN (n + 1) v = v := by
        unfold sN
        exact if_pos h0
      have ec : cN (n + 1) v = 0 := by
        unfold cN
        exact if_pos h0
      have eu : uN (n + 1) v = 0 := by
        unfold uN
        exact if_pos h0
      rw [if_pos (hx4.mpr h0), es, ec, eu]
      refine ⟨h, rfl, fun t ht => ?_, by omega, by omega⟩
      cases t with
      | zero => exact h.ci
      | succ t =>
        have : sN (t + 1) v = v := by
          unfold sN
          exact if_pos h0
        rw [this]
        exact h.ci
    · have hk : 0 < (v.q 16).length := by omega
      have es : ∀ t, sN (t + 1) v = sN t (s_handOver v 0) := fun t => by
        show (if (v.q 16).length = 0 then v else sN t (s_handOver v 0)) = _
        exact if_neg h0
      have ec : cN (n + 1) v = 1 + cN n (s_handOver v 0) := by
        show (if (v.q 16).length = 0 then 0 else 1 + cN n (s_handOver v 0)) = _
        exact if_neg h0
      have eu : uN (n + 1) v = uH v 0 + uN n (s_handOver v 0) := by
        show (if (v.q 16).length = 0 then 0 else uH v 0 + uN n (s_handOver v 0)) = _
        exact if_neg h0
      have hp := hand_pot h hk
      have ht := (take_sim (by omega) h hk).1
      obtain ⟨i1, i2, i3, i4, i5⟩ := ih (a + 1) (s_handOver v 0) (s_X6_take x 0) (T + 1) ht (by omega)
      rw [if_neg (fun e => h0 (hx4.mp e)), es n, ec, eu]
      refine ⟨by rw [show T + (1 + cN n (s_handOver v 0)) = T + 1 + cN n (s_handOver v 0) by omega]; exact i1, by rw [show a + (1 + cN n (s_handOver v 0)) = a + 1 + cN n (s_handOver v 0) by omega]; exact i2, fun t ht => ?_, by omega, by omega⟩
      cases t with
      | zero => exact h.ci
      | succ t =>
        rw [es t]
        exact i3 t (by omega)
/-- what the model's settle keeps -/
def HS (y : St) : Prop := ∃ v A T, SM v y A T ∧ T + PH v.q < 2 ^ 31 - 1
theorem HS_ok : stOK HS := by
  intro y hy
  obtain ⟨v, A, T, h, hT⟩ := hy
  have h4 : y.FM 4 = nI (v.q 16).length ∧ (v.q 16).length ≤ 44 := by
    obtain ⟨R, K, S, V, W, O, H, q, hc, hI, hM, hP⟩ := h
    have hlen := hI.len
    unfold allq at hlen
    rw [List.length_append] at hlen
    rw [hc.gq]
    exact ⟨hM.2.2.2.2.2.2.1.1, by omega⟩
  have hn : nat (y.FM 4) = (v.q 16).length := by rw [h4.1, nat_nI (by omega)]
  refine ⟨by rw [hn]; exact h4.1, fun hp => ?_⟩
  rw [hn] at hp
  have hpot := hand_pot h hp
  exact ⟨h.tk hp, s_handOver v 0, A, T + 1, (take_sim (by omega) h hp).1, by omega⟩
end POT
