/-! ===== a message is delivered ===== -/
section HAND
variable {v : Vw} {A : St} {R K S V W : Nat → Nat → Int} {O : Nat → List Nat} {H : Nat → Nat → Int} {N : Nat → Int} {q : Nat → List M7} {i j c d : Nat} {m : M7}
variable {k : Nat}
theorem qlens {L : List M7} {p : List M7} (hI : InvC R K S V W O H L) (hL : L.Perm (p ++ allq q)) (hP : PLQ q) : ∀ n, n < 16 → (q n).length ≤ 8 := by
  intro n hn
  obtain ⟨C, h1, -⟩ := allq_upd (q := q) (l := []) hn
  refine hI.qlen (L' := p ++ C) hn ?_ (hP n hn)
  refine hL.trans ((h1.append_left p).trans ?_)
  exact List.perm_append_comm_assoc _ _ _
theorem bz_iff (hc : CE v A R K S V W O H q) (j : Nat) : v.x.FH j 6 = 0 ↔ H j 6 = 0 := by
  rw [i32_eq, hc.gH]
  exact Iff.rfl
theorem mat_q {l : List M7} (h : v.q j = m :: l) : mat v j 0 = m ∧ (v.q j).eraseIdx 0 = l := by
  unfold mat
  rw [h]
  exact ⟨rfl, rfl⟩
/-- the queue of a home that is not busy any more -/
theorem free_v (hj : j < 16) : ∀ (n : Nat) (v : Vw) (H : Nat → Nat → Int) (q : Nat → List M7), CE v A R K S V W O H q → InvC R K S V W O H (allq q) → InvV N R S V W H (allq q) → PLQ q → (q j).length = n → SV (lR j n v) A N ∧ cR (lR j n v) = R := by
  intro n
  induction n with
  | zero =>
    intro v H q hc hI hV hP hn
    exact ⟨⟨R, K, S, V, W, O, H, q, hc, hI, hV, hP⟩, hc.2.1⟩
  | succ n ih =>
    intro v H q hc hI hV hP hn
    unfold lR
    by_cases hb : H j 6 = 0
    · rw [if_pos ((bz_iff hc j).mpr hb)]
      obtain ⟨m, l, hm⟩ : ∃ m l, q j = m :: l := by
        cases hq : q j with
        | nil => rw [hq] at hn; exact absurd hn (by simp)
        | cons a b => exact ⟨a, b, rfl⟩
      have hl : l.length = n := by
        rw [hm, List.length_cons] at hn
        omega
      have hvq : v.q j = m :: l := by rw [hc.gq]; exact hm
      rw [if_neg (by rw [hvq, List.length_cons]; omega)]
      have c1 := hc.sq (j := j) (l := l)
      have i1 := hI.perm (allq_deq hj hm)
      have j1 := hV.perm (allq_deq hj hm)
      have p1 : PLQ (va_up q j l) := fun k hk m' hm' => by
        by_cases e : k = j
        · subst e
          rw [va_up_self] at hm'
          exact hP k hk m' (by rw [hm]; exact List.mem_cons_of_mem _ hm')
        · rw [va_up_ne _ _ e] at hm'
          exact hP k hk m' hm'
      have hmk := hP j hj m (by rw [hm]; exact List.mem_cons_self)
      obtain ⟨H', q', r1, r2, r3, r4, r5⟩ := process_v c1 i1 j1 p1 hj ⟨hmk.1, hmk.2.1⟩ hmk.2.2 hb
      have es : stp v j = s_X1_process (vq v j l) j m := by
        unfold stp
        rw [(mat_q hvq).1, (mat_q hvq).2]
      rw [es]
      exact ih _ H' q' r1 r2 r3 r4 (by rw [r5 j (by omega), va_up_self]; exact hl)
    · rw [if_neg (fun e => hb ((bz_iff hc j).mp e))]
      exact ⟨⟨R, K, S, V, W, O, H, q, hc, hI, hV, hP⟩, hc.2.1⟩
/-- what a message says, as places -/
theorem msg_at (hw : wfm m) : ∃ j : Nat, j < 16 ∧ m 1 = nI j ∧ nat (m 1) = j ∧ ln m = (j : Int) ∧ ((m 3 = -1 ∧ 1 ≤ kd m ∧ kd m ≤ 4) ∨ (¬ m 3 = -1 ∧ ∃ i : Nat, i < 4 ∧ m 3 = nI i ∧ nat (m 3) = i ∧ tt m = (i : Int))) := by
  unfold wfm at hw
  have e : m 1 = nI (ln m).toNat := i32_eq.mpr (by rw [nI_toInt (by omega)]; show ln m = _; omega)
  refine ⟨(ln m).toNat, by omega, e, by rw [e, nat_nI (by omega)], by omega, ?_⟩
  rcases hw.2.2.1 with h | h
  · exact Or.inl ⟨i32_eq.mpr (by rw [tm1]; exact h.2.2.2.2), h.1, h.2.1⟩
  · have e3 : m 3 = nI (tt m).toNat := i32_eq.mpr (by rw [nI_toInt (by omega)]; show tt m = _; omega)
    refine Or.inr ⟨fun z => ?_, (tt m).toNat, by omega, e3, by rw [e3, nat_nI (by omega)], by omega⟩
    have : tt m = -1 := (congrArg Int32.toInt z).trans tm1
    omega
/-- a message is delivered, at any place of the way -/
theorem take_v (h : SV v A N) (hk : k < (v.q 16).length) : ∃ N', SV (s_handOver v k) A N' ∧ eff v (s_handOver v k) N N' := by
  obtain ⟨R, K, S, V, W, O, H, q, hc, hI, hV, hP⟩ := h
  rw [hc.gq] at hk
  have hmk : (q 16)[k]? = some (q 16)[k] := List.getElem?_eq_getElem hk
  generalize (q 16)[k] = m at hmk
  have i1 := hI.perm (allq_rem hmk)
  have j1 := hV.perm (allq_rem hmk)
  have hmat : mat v 16 k = m := by
    unfold mat
    rw [hc.gq, hmk]
    rfl
  have c1 : CE (rmv v k) A R K S V W O H (va_up q 16 ((q 16).eraseIdx k)) := by
    have := hc.sq (j := 16) (l := (q 16).eraseIdx k)
    unfold rmv
    rw [hc.gq]
    exact this
  have p1 : PLQ (va_up q 16 ((q 16).eraseIdx k)) := hP.way
  have er : ∀ a n, cR (rmv v k) a n = cR v a n := fun a n => by rw [c1.2.1, hc.2.1]
  unfold s_handOver
  rw [hmat]
  generalize rmv v k = u at c1 er
  generalize va_up q 16 ((q 16).eraseIdx k) = q1 at c1 i1 j1 p1
  obtain ⟨j, hj, z1, z2, z3, jt⟩ := msg_at (i1.1 m List.mem_cons_self)
  rw [z2]
  rcases jt with ⟨t3, tk1, tk2⟩ | ⟨t3, i, hi, t4, t5, t6⟩
  · rw [if_pos t3]
    have goal : SV (s_X1_receive u j m) A N ∧ cR (s_X1_receive u j m) = R := by
      unfold s_X1_receive
      by_cases h4 : kd m = 4
      · have z4 : m 0 = nI 4 := i32_eq.mpr h4
        rw [if_pos z4]
        have c2 := c1.sFH (i := j) (m := 6) (w := nI 0)
        rw [t0] at c2
        have i2 := T_done hj i1 h4 z3
        have j2 := (V_less (Or.inr (Or.inl h4)) j1).eqH (H' := w2 H j 6 0) (fun k => w2_nj (by decide)) (fun k => w2_nj (by decide)) (fun k => w2_nj (by decide))
        have e2 : (u.q j).length = (q1 j).length := by rw [c1.gq]
        rw [e2]
        exact free_v hj (q1 j).length _ _ _ c2 i2 j2 p1 rfl
      · have z4 : ¬ m 0 = nI 4 := fun e => h4 (by
          have := i32_eq.mp e
          exact this.trans (by decide))
        rw [if_neg z4]
        by_cases hb : H j 6 = 0
        · rw [if_pos ((bz_iff c1 j).mpr hb)]
          obtain ⟨H', q', r1, r2, r3, r4, r5⟩ := process_v c1 i1 j1 p1 hj ⟨tk1, by omega⟩ z3 hb
          exact ⟨⟨R, K, S, V, W, O, H', q', r1, r2, r3, r4⟩, r1.2.1⟩
        · rw [if_neg (fun e => hb ((bz_iff c1 j).mp e))]
          have c2 := c1.sq (j := j) (l := q1 j ++ [m])
          rw [c1.gq]
          refine ⟨⟨R, K, S, V, W, O, H, _, c2, i1.perm (allq_enq hj).symm, j1.perm (allq_enq hj).symm, fun n hn m' hm' => ?_⟩, c2.2.1⟩
          by_cases e : n = j
          · subst e
            rw [va_up_self] at hm'
            rcases List.mem_append.mp hm' with hm' | hm'
            · exact p1 n hn m' hm'
            · rw [List.mem_singleton.mp hm']
              exact ⟨tk1, by omega, z3⟩
          · rw [va_up_ne _ _ e] at hm'
            exact p1 n hn m' hm'
    refine ⟨N, goal.1, Or.inl ⟨fun k n _ => ?_, rfl⟩⟩
    rw [goal.2, hc.2.1]
  · rw [if_neg t3, t5]
    obtain ⟨N', s1, s2⟩ := recv_v c1 i1 j1 p1 hi hj z3 t6
    exact ⟨N', s1, s2.from (fun k n _ => er k n)⟩
/-- what the class's methods ask of the view -/
theorem SV.ci (h : SV v A N) : CI v := by
  obtain ⟨R, K, S, V, W, O, H, q, hc, hI, hV, hP⟩ := h
  refine ⟨fun i hi => (hc.wo hi).1, fun i k hi hk => (hc.wo hi).2 k hk, fun m hm => ?_, fun j hj => ?_⟩
  · rw [hc.gq] at hm
    have hw := hI.1 m (List.mem_append_left _ hm)
    obtain ⟨j, hj, j1, j2, -, jt⟩ := msg_at hw
    refine ⟨⟨by rw [j2]; exact j1, by rw [j2]; exact hj⟩, ?_⟩
    rcases jt with ⟨t3, -⟩ | ⟨-, i, hi, t4, t5, -⟩
    · exact Or.inl t3
    · exact Or.inr ⟨by rw [t5]; exact t4, by rw [t5]; exact hi⟩
  · rw [hc.gq]
    have hlen := hI.len
    unfold allq at hlen
    rw [List.length_append] at hlen
    have h8 := qlens (p := []) hI (List.Perm.refl _) hP j hj
    omega
end HAND
