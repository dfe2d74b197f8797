/-! ===== class and model side by side: a message is delivered ===== -/
section HAND
variable {v : Vw} {x y A : St} {R K S V W : Nat → Nat → Int} {O : Nat → List Nat} {H : Nat → Nat → Int} {q : Nat → List M7} {i j k T c : Nat} {m : M7}
theorem qlens {L : List M7} {p : List M7} (hI : InvC R K S V W O H L) (hL : L.Perm (p ++ allq q)) (hP : PLQ q) : ∀ n, n < 16 → (q n).length ≤ 8 := by
  intro n hn
  obtain ⟨C, h1, -⟩ := allq_upd (q := q) (l := []) hn
  refine hI.qlen (L' := p ++ C) hn ?_ (hP n hn)
  refine hL.trans ((h1.append_left p).trans ?_)
  exact List.perm_append_comm_assoc _ _ _
theorem bz_iff (hc : CE v A R K S V W O H q) (j : Nat) : v.x.FH j 6 = 0 ↔ H j 6 = 0 := by
  rw [i32_eq, hc.gH]
  exact Iff.rfl
theorem bzm_iff (hM : MR x T R K S V W O H q) (hj : j < 16) : x.AM 19 j = 0 ↔ H j 6 = 0 := by
  rw [i32_eq, (hM.2.2.2.2.1 j hj).2.2.2.1]
  exact Iff.rfl
theorem mat_q {l : List M7} (h : v.q j = m :: l) : mat v j 0 = m ∧ (v.q j).eraseIdx 0 = l := by
  unfold mat
  rw [h]
  exact ⟨rfl, rfl⟩
/-- the queue of a home that is not busy any more -/
theorem free_sim (hj : j < 16) {z : St} : ∀ (n a15 : Nat) (v : Vw) (x : St) (H : Nat → Nat → Int) (q : Nat → List M7), CE v A R K S V W O H q → InvC R K S V W O H (allq q) → MR x T R K S V W O H q → PLQ q → (q j).length = n → SM (lR j n v) (lq_X6_free_15 z j n a15 x) A T := by
  intro n
  induction n with
  | zero =>
    intro a15 v x H q hc hI hM hP hn
    have e : lq_X6_free_15 z j 0 a15 x = x := by
      unfold lq_X6_free_15
      split <;> rfl
    rw [e]
    exact ⟨R, K, S, V, W, O, H, q, hc, hI, hM, hP⟩
  | succ n ih =>
    intro a15 v x H q hc hI hM hP hn
    unfold lR lq_X6_free_15
    by_cases hb : H j 6 = 0
    · rw [if_pos ((bz_iff hc j).mpr hb), if_pos ((bzm_iff hM hj).mpr hb)]
      obtain ⟨m, l, hm⟩ : ∃ m l, q j = m :: l := by
        cases hq : q j with
        | nil => rw [hq] at hn; exact absurd hn (by simp)
        | cons a b => exact ⟨a, b, rfl⟩
      have hl : l.length = n := by
        rw [hm, List.length_cons] at hn
        omega
      have hvq : v.q j = m :: l := by rw [hc.gq]; exact hm
      rw [if_neg (by rw [hvq, List.length_cons]; omega)]
      have hql := qlens (p := []) hI (List.Perm.refl _) hP
      obtain ⟨d1, d2, d3⟩ := hM.deq (a15 := a15) (z := z) hj (fun n hn => Nat.le_trans (hql n hn) (by decide)) hm hl rfl
      have c1 := hc.sq (j := j) (l := l)
      have i1 := hI.perm (allq_deq hj hm)
      have p1 : PLQ (va_up q j l) := fun k hk m' hm' => by
        by_cases e : k = j
        · subst e
          rw [va_up_self] at hm'
          exact hP k hk m' (by rw [hm]; exact List.mem_cons_of_mem _ hm')
        · rw [va_up_ne _ _ e] at hm'
          exact hP k hk m' hm'
      have hmk := hP j hj m (by rw [hm]; exact List.mem_cons_self)
      obtain ⟨H', q', r1, r2, r3, r4, r5⟩ := process_sim c1 i1 d1 p1 hj ⟨hmk.1, hmk.2.1⟩ hmk.2.2 hb d2
      have es : stp v j = s_X1_process (vq v j l) j m := by
        unfold stp
        rw [(mat_q hvq).1, (mat_q hvq).2]
      rw [es]
      exact ih (a15 + 1) _ _ H' q' r1 r2 r3 r4 (by rw [r5 j (by omega), va_up_self]; exact hl)
    · rw [if_neg (fun e => hb ((bz_iff hc j).mp e)), if_neg (fun e => hb ((bzm_iff hM hj).mp e))]
      exact ⟨R, K, S, V, W, O, H, q, hc, hI, hM, hP⟩
/-- what a message says, as places -/
theorem msg_at (hw : wfm m) : ∃ j : Nat, j < 16 ∧ m 1 = nI j ∧ nat (m 1) = j ∧ ln m = (j : Int) ∧ ((m 3 = -1 ∧ 1 ≤ kd m ∧ kd m ≤ 4) ∨ (¬ m 3 = -1 ∧ ∃ i : Nat, i < 4 ∧ m 3 = nI i ∧ nat (m 3) = i ∧ tt m = (i : Int))) := by
  unfold wfm at hw
  have e : m 1 = nI (ln m).toNat := i32_eq.mpr (by rw [nI_toInt (by omega)]; show ln m = _; omega)
  refine ⟨(ln m).toNat, by omega, e, by rw [e, nat_nI (by omega)], by omega, ?_⟩
  rcases hw.2.2.1 with h | h
  · exact Or.inl ⟨i32_eq.mpr (by rw [tm1]; exact h.2.2.2.2), h.1, h.2.1⟩
  · have e3 : m 3 = nI (tt m).toNat := i32_eq.mpr (by rw [nI_toInt (by omega)]; show tt m = _; omega)
    refine Or.inr ⟨fun z => ?_, (tt m).toNat, by omega, e3, by rw [e3, nat_nI (by omega)], by omega⟩
    have : tt m = -1 := (congrArg Int32.toInt z).trans tm1
    omega
/-- a message is delivered, at any place of the way -/
theorem take_sim (hT : T < 2 ^ 31 - 1) (h : SM v x A T) (hk : k < (v.q 16).length) : SM (s_handOver v k) (s_X6_take x k) A (T + 1) ∧ (s_X6_take x k).FM 4 = nI ((s_handOver v k).q 16).length := by
  have key : SM (s_handOver v k) (s_X6_take x k) A (T + 1) := by
    obtain ⟨R, K, S, V, W, O, H, q, hc, hI, hM, hP⟩ := h
    rw [hc.gq] at hk
    have hmk : (q 16)[k]? = some (q 16)[k] := List.getElem?_eq_getElem hk
    generalize (q 16)[k] = m at hmk
    have hlen := hI.len
    have hlw : (q 16).length ≤ 44 := by
      unfold allq at hlen
      rw [List.length_append] at hlen
      omega
    have i1 := hI.perm (allq_rem hmk)
    obtain ⟨d1, d2, d3, d4⟩ := hM.tk (y := lp_X6_take_46 x k ((lp_X6_take_2 x k x 7).setFM 4 (nI ((nat (x.FM 4)) - 1))) (7 * (nat (x.FM 4) - 1) - 7 * k)) (by omega) hmk rfl
    have hmat : mat v 16 k = m := by
      unfold mat
      rw [hc.gq, hmk]
      rfl
    have hr1 : x.AM 22 (7 * k + 1) = m 1 := (hM.2.2.2.2.2.2.1.2 k m hmk).2.1
    have hr3 : x.AM 22 (7 * k + 3) = m 3 := (hM.2.2.2.2.2.2.1.2 k m hmk).2.2.2.1
    have c1 : CE (rmv v k) A R K S V W O H (va_up q 16 ((q 16).eraseIdx k)) := by
      have := hc.sq (j := 16) (l := (q 16).eraseIdx k)
      unfold rmv
      rw [hc.gq]
      exact this
    have p1 : PLQ (va_up q 16 ((q 16).eraseIdx k)) := hP.way
    unfold s_handOver s_X6_take
    rw [hmat, hr1, hr3]
    generalize lp_X6_take_46 x k ((lp_X6_take_2 x k x 7).setFM 4 (nI ((nat (x.FM 4)) - 1))) (7 * (nat (x.FM 4) - 1) - 7 * k) = y at d1 d2 d3 d4
    generalize rmv v k = u at c1
    generalize va_up q 16 ((q 16).eraseIdx k) = q1 at c1 i1 d1 p1
    obtain ⟨j, hj, j1, j2, j3, jt⟩ := msg_at (i1.1 m List.mem_cons_self)
    have w3 : y.AM 23 3 = m 3 := d2.2.2.2.1
    have w0 : y.AM 23 0 = m 0 := d2.1
    rw [j2]
    rcases jt with ⟨t3, tk1, tk2⟩ | ⟨t3, i, hi, t4, t5, t6⟩
    · rw [if_pos t3]
      refine SM.mono ?_ (Nat.le_succ T)
      unfold s_X1_receive
      by_cases h4 : kd m = 4
      · have z4 : m 0 = nI 4 := i32_eq.mpr h4
        rw [if_pos z4]
        have e1 : s_X6_free y j = lq_X6_free_15 y j (q1 j).length 0 (y.setAM 19 (upd (y.AM 19) j (vp_nar .boolean (nI 0)))) := by
          unfold s_X6_free
          rw [(d1.2.2.2.2.1 j hj).2.2.2.2, nat_nI (by have := qlens (p := [m]) i1 (List.Perm.refl _) p1 j hj; omega)]
        have c2 := c1.sFH (i := j) (m := 6) (w := nI 0)
        rw [t0] at c2
        have i2 := T_done hj i1 h4 j3
        have m2 : MR (y.setAM 19 (upd (y.AM 19) j (vp_nar .boolean (nI 0)))) T R K S V W O (w2 H j 6 0) q1 := by
          refine d1.setH (fun r hr => AM_ne (by omega)) (by rw [St.FM_setAM]) (by rw [St.FM_setAM]) (by rw [St.FM_setAM]; exact mW.congr d1.mW (fun k => w2_nj (by decide)) (fun k => w2_nj (by decide))) (fun k hk => ?_)
          obtain ⟨z1, z2, z3, z4, -⟩ := d1.2.2.2.2.1 k hk
          rw [AM_ne (by decide), AM_ne (by decide), AM_ne (by decide), AM_eq, nar_0, w2_nj (by decide), w2_nj (by decide), w2_nj (by decide)]
          by_cases e : k = j
          · subst e
            rw [upd_eq, w2_eq]
            exact ⟨z1, z2, z3, t0⟩
          · rw [upd_ne e, w2_ni e]
            exact ⟨z1, z2, z3, z4⟩
        have goal := free_sim hj (z := y) (q1 j).length 0 _ _ _ _ c2 i2 m2 p1 rfl
        have e2 : (u.q j).length = (q1 j).length := by rw [c1.gq]
        rw [e2]
        rw [if_pos (w3.trans t3), if_pos (w0.trans z4)]
        show SM _ (s_X6_free y j) A T
        rw [e1]
        exact goal
      · have z4 : ¬ m 0 = nI 4 := fun e => h4 (by
          have := i32_eq.mp e
          exact this.trans (by decide))
        rw [if_neg z4, if_pos (w3.trans t3), if_neg (fun e => z4 (w0.symm.trans e))]
        by_cases hb : H j 6 = 0
        · rw [if_pos ((bz_iff c1 j).mpr hb), if_pos ((bzm_iff d1 hj).mpr hb)]
          obtain ⟨H', q', r1, r2, r3, r4, r5⟩ := process_sim c1 i1 d1 p1 hj ⟨tk1, by omega⟩ j3 hb d2
          exact ⟨R, K, S, V, W, O, H', q', r1, r2, r3, r4⟩
        · rw [if_neg (fun e => hb ((bz_iff c1 j).mp e)), if_neg (fun e => hb ((bzm_iff d1 hj).mp e))]
          have hql := qlens (p := [m]) i1 (List.Perm.refl _) p1
          obtain ⟨e1, e2⟩ := d1.enq hj (fun n hn => Nat.le_trans (hql n hn) (by decide)) d2
          have c2 := c1.sq (j := j) (l := q1 j ++ [m])
          rw [c1.gq]
          refine ⟨R, K, S, V, W, O, H, _, c2, i1.perm (allq_enq hj).symm, e1, fun n hn m' hm' => ?_⟩
          by_cases e : n = j
          · subst e
            rw [va_up_self] at hm'
            rcases List.mem_append.mp hm' with hm' | hm'
            · exact p1 n hn m' hm'
            · rw [List.mem_singleton.mp hm']
              exact ⟨tk1, by omega, j3⟩
          · rw [va_up_ne _ _ e] at hm'
            exact p1 n hn m' hm'
    · rw [if_neg t3, if_neg (fun e => t3 (w3.symm.trans e)), t5]
      exact recv_sim hT c1 i1 d1 p1 hi hj j3 t6 d2
  refine ⟨key, ?_⟩
  obtain ⟨R, K, S, V, W, O, H, q, hc, hI, hM, hP⟩ := key
  rw [hc.gq]
  exact hM.2.2.2.2.2.2.1.1
/-- what the class's methods ask of the view -/
theorem SM.ci (h : SM v x A T) : CI v := by
  obtain ⟨R, K, S, V, W, O, H, q, hc, hI, hM, hP⟩ := h
  refine ⟨fun i hi => (hc.wo hi).1, fun i k hi hk => (hc.wo hi).2 k hk, fun m hm => ?_, fun j hj => ?_⟩
  · rw [hc.gq] at hm
    have hw := hI.1 m (List.mem_append_left _ hm)
    obtain ⟨j, hj, j1, j2, -, jt⟩ := msg_at hw
    refine ⟨⟨by rw [j2]; exact j1, by rw [j2]; exact hj⟩, ?_⟩
    rcases jt with ⟨t3, -⟩ | ⟨-, i, hi, t4, t5, -⟩
    · exact Or.inl t3
    · exact Or.inr ⟨by rw [t5]; exact t4, by rw [t5]; exact hi⟩
  · rw [hc.gq]
    have hlen := hI.len
    obtain ⟨C, h1, -⟩ := allq_upd (q := q) (l := []) hj
    have hl2 := hI.len
    unfold allq at hlen
    rw [List.length_append] at hlen
    have h8 := qlens (p := []) hI (List.Perm.refl _) hP j hj
    omega
/-- what the model's methods ask of the model -/
theorem SM.tk (h : SM v x A T) (hk : k < (v.q 16).length) : tkOK x k := by
  obtain ⟨R, K, S, V, W, O, H, q, hc, hI, hM, hP⟩ := h
  rw [hc.gq] at hk
  have hlen := hI.len
  have hlw : (q 16).length ≤ 44 := by
    unfold allq at hlen
    rw [List.length_append] at hlen
    omega
  have hmk : (q 16)[k]? = some (q 16)[k] := List.getElem?_eq_getElem hk
  generalize (q 16)[k] = m at hmk
  have hmem : m ∈ allq q := List.mem_append_left _ (List.mem_of_getElem? hmk)
  have hr := hM.2.2.2.2.2.2.1.2 k m hmk
  have hr0 : x.AM 22 (7 * k + 0) = m 0 := hr.1
  have hr1 : x.AM 22 (7 * k + 1) = m 1 := hr.2.1
  have hr3 : x.AM 22 (7 * k + 3) = m 3 := hr.2.2.2.1
  have h4 := hM.2.2.2.2.2.2.1.1
  have hs : nat (x.FM 4) = (q 16).length := by rw [h4, nat_nI (by omega)]
  obtain ⟨j, hj, j1, j2, j3, jt⟩ := msg_at (hI.1 m hmem)
  have hql := qlens (p := []) hI (List.Perm.refl _) hP
  unfold tkOK
  rw [hr0, hr1, hr3, hs]
  refine ⟨⟨by rw [hs]; exact h4, by rw [hs]; omega⟩, hk, ⟨by rw [j2]; exact j1, by rw [j2]; exact hj⟩, ?_, fun n hn => ?_, ?_⟩
  · rcases jt with ⟨t3, -⟩ | ⟨-, i, hi, t4, t5, -⟩
    · exact Or.inl t3
    · exact Or.inr ⟨by rw [t5]; exact t4, by rw [t5]; exact hi⟩
  · have := hql n hn
    rw [(hM.2.2.2.2.1 n hn).2.2.2.2, nat_nI (by omega)]
    exact ⟨rfl, by omega⟩
  · intro t3 t0
    rcases jt with ⟨t4, -⟩ | ⟨-, i, hi, t4, t5, t6⟩
    · exact (t3 t4).elim
    · rw [t5]
      have lk := hI.2.2.1 i hi m hmem
      have hkd : kd m = 5 ∨ kd m = 6 ∨ kd m = 7 := by
        rcases t0 with e | e | e
        · exact Or.inl ((i32_eq.mp e).trans (by decide))
        · exact Or.inr (Or.inl ((i32_eq.mp e).trans (by decide)))
        · exact Or.inr (Or.inr ((i32_eq.mp e).trans (by decide)))
      have r0 : R i 0 = (j : Int) := by
        rcases hkd with e | e | e
        · have := (lk.2.2.1 (Or.inl e) t6).1
          omega
        · have := (lk.2.2.1 (Or.inr e) t6).1
          omega
        · have := lk.2.2.2.2 e t6
          omega
      have e9 : x.AM 9 i = nI j := i32_eq.mpr (by rw [(hM.1 i hi).2.2.2.2.2, r0, tj hj])
      rw [e9, nat_nI (by omega)]
      exact ⟨rfl, hj⟩
end HAND
