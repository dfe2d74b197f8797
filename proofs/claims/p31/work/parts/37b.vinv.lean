/-! ===== the values: completions, openings, writings, evictions, forwards ===== -/
section VINV
variable {R K S V W : Nat → Nat → Int} {O : Nat → List Nat} {H : Nat → Nat → Int} {N : Nat → Int} {L : List M7} {m o : M7} {c j d : Nat}
/-- a line's latest value changes -/
def vN (N : Nat → Int) (j : Nat) (a : Int) : Nat → Int := fun k => if k = j then a else N k
theorem vN_eq {a : Int} : vN N j a j = a := if_pos rfl
theorem vN_ne {a : Int} {k : Nat} (h : k ≠ j) : vN N j a k = N k := if_neg h
/-- a reading is completed -/
theorem V_finR (hc : c < 4) (hj : j < 16) (hC : InvC R K S V W O H L) (hV : InvV N R S V W H L) (hr0 : R c 0 = (j : Int)) (h1 : R c 1 = 0) (h3 : R c 3 = 1) (ho : kd o = 4) : InvV N (w2 R c 0 (-1)) (w2 S c j 1) (w2 V c j (R c 4)) W H (o :: L) := by
  have cA := hC.2.1 c hc
  unfold rqA at cA
  have hg : L.countP (pG c) = 0 := by omega
  refine V_more (Or.inl ho) ?_
  obtain ⟨v1, v2, v3, v4, v5, v6, v7, v8, v9, va, vb, vc⟩ := hV
  obtain ⟨x1, x2⟩ := v7 c hc j hj hr0 h1 h3
  have x3 := vc c hc j hj hr0 hg h1
  have r0 : ∀ k, (w2 R c 0 (-1)) k 0 = if k = c then -1 else R k 0 := fun k => by simp [w2]
  have rn : ∀ k n, n ≠ 0 → (w2 R c 0 (-1)) k n = R k n := fun k n hn => by simp [w2, hn]
  have hs : ∀ i k, (i = c ∧ k = j ∧ w2 S c j 1 i k = 1 ∧ w2 V c j (R c 4) i k = R c 4) ∨ (¬ (i = c ∧ k = j) ∧ w2 S c j 1 i k = S i k ∧ w2 V c j (R c 4) i k = V i k) := fun i k => by
    unfold w2
    by_cases e : i = c ∧ k = j
    · rw [if_pos e, if_pos e]
      exact Or.inl ⟨e.1, e.2, rfl, rfl⟩
    · rw [if_neg e, if_neg e]
      exact Or.inr ⟨e, rfl, rfl⟩
  have hn : ∀ k, no3 S k → no3 (w2 S c j 1) k := fun k h n hn q => by
    rcases hs n k with z | z
    · omega
    · exact h n hn (by omega)
  unfold InvV
  simp only [r0, rn _ 1 (by decide), rn _ 3 (by decide), rn _ 4 (by decide)]
  refine ⟨fun i hi k hk q => ?_, fun i hi n hn' k hk e q => ?_, v3, v4, v5, fun x hx h5 i hi k hk q1 q2 q3 => ?_, fun i hi k hk q0 q1 q3 => ?_, v8, fun i hi k hk q => ?_, fun i hi k hk q => ?_, fun i hi k hk q0 q1 q2 => ?_, fun i hi k hk q0 q1 q2 => ?_⟩
  · rcases hs i k with z | z
    · rw [z.2.2.2, z.2.1, x1]
    · rw [z.2.2]
      exact v1 i hi k hk (by rw [← z.2.1]; exact q)
  · rcases hs i k with z | z
    · omega
    · have := v2 i hi n hn' k hk e (by omega)
      rcases hs n k with z2 | z2
      · refine ⟨by omega, fun q3 => ?_⟩
        exact absurd (show S i j = 3 by rw [← z2.2.1, ← z.2.1]; exact q3) (x2 i hi)
      · rw [z2.2.1, z.2.1]
        exact this
  · have := v6 x hx h5 i hi k hk q1 q2 q3
    exact ⟨this.1, hn k this.2⟩
  · by_cases e : i = c
    · rw [if_pos e] at q0
      omega
    · rw [if_neg e] at q0
      have := v7 i hi k hk q0 q1 q3
      exact ⟨this.1, hn k this.2⟩
  · rcases hs i k with z | z
    · obtain ⟨rfl, rfl, -⟩ := z
      exact Or.inr (Or.inl x3)
    · exact v9 i hi k hk (by rw [← z.2.1]; exact q)
  · rcases hs i k with z | z
    · omega
    · exact va i hi k hk (by omega)
  · by_cases e : i = c
    · rw [if_pos e] at q0
      omega
    · rw [if_neg e] at q0
      exact vb i hi k hk q0 q1 q2
  · by_cases e : i = c
    · rw [if_pos e] at q0
      omega
    · rw [if_neg e] at q0
      exact vc i hi k hk q0 q1 q2
/-- when a writing is completed, no other cache has the line -/
theorem V_alone (hc : c < 4) (hj : j < 16) (hC : InvC R K S V W O H L) (hV : InvV N R S V W H L) (hr0 : R c 0 = (j : Int)) (h1 : R c 1 = 1) (h3 : R c 3 = 1) (h56 : R c 6 = R c 5) : L.countP (pG c) = 0 ∧ H j 4 = (c : Int) ∧ ∀ i : Nat, i < 4 → i ≠ c → S i j = 0 := by
  have cA := hC.2.1 c hc
  unfold rqA at cA
  have hg : L.countP (pG c) = 0 := by omega
  have hX : L.countP (pX c) = 0 := by omega
  have hF : L.countP (pF c) = 0 := by omega
  have b1 := hC.bz1 hj hc hr0 hg
  have b := hV.2.2.2.2.2.2.2.2.2.2.1 c hc j hj hr0 hg h1
  refine ⟨hg, b.1, fun i hi hic => ?_⟩
  by_cases hS : S i j = 0
  · exact hS
  · rcases hV.2.2.2.2.2.2.2.2.1 i hi j hj hS with z | z | ⟨x, hx, k1, k2, k3⟩ | ⟨x, hx, k1, k2, k3⟩
    · omega
    · rw [b.2] at z
      exact (bt0 z).elim
    · obtain ⟨n, n1, n2, n3, n4, n5⟩ := hC.inv hj hx k1 k3
      have := b1.2 n n1 n3 n4
      subst this
      omega
    · obtain ⟨n, n1, n2, n3, n4, n5, n6⟩ := hC.fwd hj hx (Or.inr k1) k3
      have := b1.2 n n1 n3 n4
      subst this
      omega
/-- a writing is completed -/
theorem V_finW (hc : c < 4) (hj : j < 16) (hC : InvC R K S V W O H L) (hV : InvV N R S V W H L) (hr0 : R c 0 = (j : Int)) (h1 : R c 1 = 1) (h3 : R c 3 = 1) (h56 : R c 6 = R c 5) (ho : kd o = 4) : InvV (vN N j (R c 2)) (w2 R c 0 (-1)) (w2 S c j 3) (w2 V c j (R c 2)) W H (o :: L) := by
  obtain ⟨hg, w4, al⟩ := V_alone hc hj hC hV hr0 h1 h3 h56
  have b1 := hC.bz1 hj hc hr0 hg
  have hW : W c j = -1 := Decidable.byContradiction fun q => (hC.vic hc hj q).2 hr0
  refine V_more (Or.inl ho) ?_
  obtain ⟨v1, v2, v3, v4, v5, v6, v7, v8, v9, va, vb, vc⟩ := hV
  have r0 : ∀ k, (w2 R c 0 (-1)) k 0 = if k = c then -1 else R k 0 := fun k => by simp [w2]
  have rn : ∀ k n, n ≠ 0 → (w2 R c 0 (-1)) k n = R k n := fun k n hn => by simp [w2, hn]
  have hs : ∀ i k, (i = c ∧ k = j ∧ w2 S c j 3 i k = 3 ∧ w2 V c j (R c 2) i k = R c 2) ∨ (¬ (i = c ∧ k = j) ∧ w2 S c j 3 i k = S i k ∧ w2 V c j (R c 2) i k = V i k) := fun i k => by
    unfold w2
    by_cases e : i = c ∧ k = j
    · rw [if_pos e, if_pos e]
      exact Or.inl ⟨e.1, e.2, rfl, rfl⟩
    · rw [if_neg e, if_neg e]
      exact Or.inr ⟨e, rfl, rfl⟩
  have hn : ∀ k, k ≠ j → no3 S k → no3 (w2 S c j 3) k := fun k hkj h n hn q => by
    rcases hs n k with z | z
    · omega
    · exact h n hn (by omega)
  unfold InvV
  simp only [r0, rn _ 1 (by decide), rn _ 3 (by decide), rn _ 4 (by decide)]
  refine ⟨fun i hi k hk q => ?_, fun i hi n hn' k hk e q => ?_, fun k hk q => ?_, fun i hi k hk q q2 => ?_, v5, fun x hx h5 i hi k hk q1 q2 q3 => ?_, fun i hi k hk q0 q1 q3 => ?_, v8, fun i hi k hk q => ?_, fun i hi k hk q => ?_, fun i hi k hk q0 q1 q2 => ?_, fun i hi k hk q0 q1 q2 => ?_⟩
  · rcases hs i k with z | z
    · rw [z.2.2.2, z.2.1, vN_eq]
    · rw [z.2.1] at q
      by_cases e : k = j
      · subst e
        exact (q (al i hi (fun e2 => z.1 ⟨e2, rfl⟩))).elim
      · rw [vN_ne e, z.2.2]
        exact v1 i hi k hk q
  · rcases hs i k with z | z
    · rcases hs n k with z2 | z2
      · omega
      · have := al n hn' (by omega)
        have : S n k = 0 := by rw [z.2.1]; exact this
        exact ⟨by omega, fun _ => by omega⟩
    · rcases hs n k with z2 | z2
      · have := al i hi (by omega)
        have : S i k = 0 := by rw [z2.2.1]; exact this
        omega
      · rw [z2.2.1, z.2.1]
        exact v2 i hi n hn' k hk e (by omega)
  · by_cases e : k = j
    · subst e
      omega
    · rw [vN_ne e]
      exact v3 k hk q
  · by_cases e : k = j
    · subst e
      have : i = c := by omega
      subst this
      exact (q2 hW).elim
    · rw [vN_ne e]
      exact v4 i hi k hk q q2
  · by_cases e : k = j
    · subst e
      obtain ⟨n1, n2⟩ := hC.dat hi hx (Or.inl h5) q1 q2
      have := b1.2 i hi n1 n2
      subst this
      omega
    · rw [vN_ne e]
      have := v6 x hx h5 i hi k hk q1 q2 q3
      exact ⟨this.1, hn k e this.2⟩
  · by_cases e : i = c
    · rw [if_pos e] at q0
      omega
    · rw [if_neg e] at q0
      by_cases e2 : k = j
      · subst e2
        have cB := hC.2.1 i hi
        unfold rqA at cB
        exact (e (b1.2 i hi q0 (by omega))).elim
      · rw [vN_ne e2]
        have := v7 i hi k hk q0 q1 q3
        exact ⟨this.1, hn k e2 this.2⟩
  · rcases hs i k with z | z
    · obtain ⟨rfl, rfl, -⟩ := z
      exact Or.inl w4
    · exact v9 i hi k hk (by rw [← z.2.1]; exact q)
  · rcases hs i k with z | z
    · obtain ⟨rfl, rfl, -⟩ := z
      exact Or.inl w4
    · exact va i hi k hk (by omega)
  · by_cases e : i = c
    · rw [if_pos e] at q0
      omega
    · rw [if_neg e] at q0
      exact vb i hi k hk q0 q1 q2
  · by_cases e : i = c
    · rw [if_pos e] at q0
      omega
    · rw [if_neg e] at q0
      exact vc i hi k hk q0 q1 q2
/-- a request is opened -/
theorem V_open {w tw : Int} (hc : c < 4) (hC : InvC R K S V W O H L) (hV : InvV N R S V W H L) (hr0 : R c 0 = -1) (ho : kd o = 1 ∨ kd o = 2) (hof : fr o = (c : Int)) : InvV N (w2 (w2 (w2 (w2 (w2 R c 0 (j : Int)) c 1 w) c 2 tw) c 3 0) c 6 0) S V W H (o :: L) := by
  have cA := hC.2.1 c hc
  unfold rqA at cA
  have hD : L.countP (pD c) = 0 := by omega
  have g1 := (ct_get ho hof L).1
  have rn : ∀ k n, k ≠ c → (w2 (w2 (w2 (w2 (w2 R c 0 (j : Int)) c 1 w) c 2 tw) c 3 0) c 6 0) k n = R k n := fun k n hk => by simp [w2, hk]
  have r3 : (w2 (w2 (w2 (w2 (w2 R c 0 (j : Int)) c 1 w) c 2 tw) c 3 0) c 6 0) c 3 = 0 := by simp [w2]
  generalize w2 (w2 (w2 (w2 (w2 R c 0 (j : Int)) c 1 w) c 2 tw) c 3 0) c 6 0 = R' at rn r3
  obtain ⟨v1, v2, v3, v4, v5, v6, v7, v8, v9, va, vb, vc⟩ := hV
  unfold InvV
  simp only [List.forall_mem_cons, fwM_cz (show kd o ≠ 9 by omega), ivM_cz (show kd o ≠ 10 by omega), g1]
  refine ⟨v1, v2, v3, v4, ⟨fun q => by omega, v5⟩, ⟨fun q => by omega, fun x hx h5 i hi k hk q1 q2 q3 => ?_⟩, fun i hi k hk q0 q1 q3 => ?_, ⟨fun q => by omega, v8⟩, v9, va, fun i hi k hk q0 q1 q2 => ?_, fun i hi k hk q0 q1 q2 => ?_⟩
  · by_cases e : i = c
    · subst e
      have := cnt_no hD hx
      simp [pD, h5, q1] at this
    · rw [rn i 1 e] at q3
      exact v6 x hx h5 i hi k hk q1 q2 q3
  · by_cases e : i = c
    · subst e
      omega
    · rw [rn i _ e] at q0 q1 q3 ⊢
      exact v7 i hi k hk q0 q1 q3
  · by_cases e : i = c
    · rw [if_pos e] at q1
      omega
    · rw [if_neg e] at q1
      rw [rn i _ e] at q0 q2
      exact vb i hi k hk q0 q1 q2
  · by_cases e : i = c
    · rw [if_pos e] at q1
      omega
    · rw [if_neg e] at q1
      rw [rn i _ e] at q0 q2
      exact vc i hi k hk q0 q1 q2
/-- a writing at once -/
theorem V_hit {a : Int} (hc : c < 4) (hj : j < 16) (hC : InvC R K S V W O H L) (hV : InvV N R S V W H L) (hs : S c j = 3) : InvV (vN N j a) R S (w2 V c j a) W H L := by
  obtain ⟨v1, v2, v3, v4, v5, v6, v7, v8, v9, va, vb, vc⟩ := hV
  have al : ∀ i : Nat, i < 4 → i ≠ c → S i j = 0 := fun i hi hic => (v2 c hc i hi j hj (Ne.symm hic) (by omega)).2 hs
  have hW : ∀ i : Nat, i < 4 → H j 4 = (i : Int) → W i j = -1 := fun i hi q => by
    by_cases e : i = c
    · subst e
      exact Decidable.byContradiction fun z => by
        have := (hC.vic hi hj z).1
        omega
    · rcases va c hc j hj (by omega) with z | ⟨x, hx, k1, k2, k3⟩
      · omega
      · obtain ⟨n, n1, n2, n3, n4, n5, n6⟩ := hC.fwd hj hx (Or.inr k1) k3
        have b := hC.2.2.2.2.2.2.2.2.2.2.2.2 x hx k1 j hj k3
        have : i = n := by omega
        subst this
        exact Decidable.byContradiction fun z => (hC.vic hi hj z).2 n3
  have hw : ∀ i k, (i = c ∧ k = j ∧ w2 V c j a i k = a) ∨ (¬ (i = c ∧ k = j) ∧ w2 V c j a i k = V i k) := fun i k => by
    unfold w2
    by_cases e : i = c ∧ k = j
    · rw [if_pos e]
      exact Or.inl ⟨e.1, e.2, rfl⟩
    · rw [if_neg e]
      exact Or.inr ⟨e, rfl⟩
  refine ⟨fun i hi k hk q => ?_, v2, fun k hk q => ?_, fun i hi k hk q q2 => ?_, v5, fun x hx h5 i hi k hk q1 q2 q3 => ?_, fun i hi k hk q0 q1 q3 => ?_, v8, v9, va, vb, vc⟩
  · rcases hw i k with z | z
    · rw [z.2.2, z.2.1, vN_eq]
    · by_cases e : k = j
      · subst e
        exact (q (al i hi (fun e2 => z.1 ⟨e2, rfl⟩))).elim
      · rw [vN_ne e, z.2]
        exact v1 i hi k hk q
  · by_cases e : k = j
    · subst e
      rcases va c hc k hk (by omega) with z | ⟨x, hx, k1, k2, k3⟩
      · omega
      · have b := hC.2.2.2.2.2.2.2.2.2.2.2.2 x hx k1 k hk k3
        have w := hC.1 x hx
        unfold wfm at w
        omega
    · rw [vN_ne e]
      exact v3 k hk q
  · by_cases e : k = j
    · subst e
      exact (q2 (hW i hi q)).elim
    · rw [vN_ne e]
      exact v4 i hi k hk q q2
  · by_cases e : k = j
    · subst e
      exact ((v6 x hx h5 i hi k hk q1 q2 q3).2 c hc hs).elim
    · rw [vN_ne e]
      exact v6 x hx h5 i hi k hk q1 q2 q3
  · by_cases e : k = j
    · subst e
      exact ((v7 i hi k hk q0 q1 q3).2 c hc hs).elim
    · rw [vN_ne e]
      exact v7 i hi k hk q0 q1 q3
/-- an owner's line is written back -/
theorem V_out2 (hc : c < 4) (hj : j < 16) (hC : InvC R K S V W O H L) (hV : InvV N R S V W H L) (hs : S c j ≠ 0) (ho : kd o = 3) (hol : ln o = (j : Int)) (hof : fr o = (c : Int)) (hov : vl o = V c j) : InvV N R (w2 S c j 0) (w2 V c j (-1)) (w2 W c j (V c j)) H (o :: L) := by
  have hW : W c j = -1 := Decidable.byContradiction fun q => hs (hC.vic hc hj q).1
  have hP : L.countP (pP c j) = 0 := by
    have := (hC.2.2.2.1 c hc j hj).2.1
    rw [if_pos hW] at this
    exact this
  have hv := hV.1 c hc j hj hs
  have g1 : ∀ i : Nat, (o :: L).countP (pG i) = L.countP (pG i) := fun i => cnt_z (by simp [pG, ho])
  obtain ⟨v1, v2, v3, v4, v5, v6, v7, v8, v9, va, vb, vc⟩ := V_drop (c := c) (j := j) hV
  have hw : ∀ i k, (i = c ∧ k = j ∧ w2 W c j (V c j) i k = V c j) ∨ (¬ (i = c ∧ k = j) ∧ w2 W c j (V c j) i k = W i k) := fun i k => by
    unfold w2
    by_cases e : i = c ∧ k = j
    · rw [if_pos e]
      exact Or.inl ⟨e.1, e.2, rfl⟩
    · rw [if_neg e]
      exact Or.inr ⟨e, rfl⟩
  unfold InvV
  simp only [List.forall_mem_cons, fwM_cz (show kd o ≠ 9 by omega), ivM_cz (show kd o ≠ 10 by omega), g1]
  refine ⟨v1, v2, v3, fun i hi k hk q q2 => ?_, ⟨fun q i hi k hk q1 q2 => ?_, fun x hx q i hi k hk q1 q2 => ?_⟩, ⟨fun q => by omega, v6⟩, v7, ⟨fun q => by omega, v8⟩, v9, va, vb, vc⟩
  · rcases hw i k with z | z
    · rw [z.2.2, z.2.1]
      exact hv
    · rw [z.2] at q2 ⊢
      exact v4 i hi k hk q q2
  · rcases hw i k with z | z
    · rw [z.2.2]
      exact hov
    · exact (z.1 ⟨by omega, by omega⟩).elim
  · rcases hw i k with z | z
    · obtain ⟨rfl, rfl, -⟩ := z
      have := cnt_no hP hx
      simp [pP, q, q1, q2] at this
    · rw [z.2]
      exact v5 x hx q i hi k hk q1 q2
/-- a forward for a reading is answered -/
theorem V_fwdS {s : Int} (hc : c < 4) (hj : j < 16) (hC : InvC R K S V W O H (m :: L)) (hV : InvV N R S V W H (m :: L)) (hm : kd m = 8) (hl : ln m = (j : Int)) (ht : tt m = (c : Int)) (hr : rq m = (d : Int)) (hs : (S c j ≠ 3 ∧ s = S c j) ∨ (S c j = 3 ∧ s = 2))
    (ho : kd o = 5) (hol : ln o = (j : Int)) (hot : tt o = (d : Int)) (hov : vl o = if S c j = 0 then W c j else V c j) : InvV N R (w2 S c j s) V W H (o :: L) := by
  have own : H j 4 = (c : Int) := (hV.2.2.2.2.2.2.2.1 m List.mem_cons_self hm j hj hl).trans ht
  have hd := hC.2.2.2.2.2.2.2.2.2.2.2.1 c hc j hj m List.mem_cons_self (Or.inl hm) ht hl
  obtain ⟨e, e1, e2, e3, e4, e5, e6⟩ := hC.fwd hj List.mem_cons_self (Or.inl hm) hl
  have ed : d = e := by omega
  have b1 := (hC.bz1 hj e1 e3 e4).2
  have hval : vl o = N j := by
    rw [hov]
    by_cases z : S c j = 0
    · rw [if_pos z]
      have hU : 0 < (m :: L).countP (pU c j) := by
        unfold hdA at hd
        omega
      have hle : (m :: L).countP (pU c j) ≤ (m :: L).countP (pP c j) := cnt_UP
      refine hV.2.2.2.1 c hc j hj own (fun q => ?_)
      have := (hC.2.2.2.1 c hc j hj).2.1
      rw [if_pos q] at this
      omega
    · rw [if_neg z]
      exact hV.1 c hc j hj z
  have ns : ∀ i k, (i = c ∧ k = j ∧ w2 S c j s i k = s) ∨ (¬ (i = c ∧ k = j) ∧ w2 S c j s i k = S i k) := fun i k => by
    unfold w2
    by_cases e : i = c ∧ k = j
    · rw [if_pos e]
      exact Or.inl ⟨e.1, e.2, rfl⟩
    · rw [if_neg e]
      exact Or.inr ⟨e, rfl⟩
  have n3 : R d 1 = 0 → no3 (w2 S c j s) j := fun q n hn z => by
    rcases ns n j with y | y
    · omega
    · have z2 : S n j = 3 := by rw [← y.2]; exact z
      rcases hV.2.2.2.2.2.2.2.2.2.1 n hn j hj (by omega) with w | ⟨x, hx, k1, k2, k3⟩
      · have : n = c := by omega
        exact y.1 ⟨this, rfl⟩
      · obtain ⟨f, f1, f2, f3, f4, f5, f6⟩ := hC.fwd hj hx (Or.inr k1) k3
        have := b1 f f1 f3 f4
        have lk := ((hC.2.2.1 f f1 x hx).2.1 (Or.inr k1) f2).2.2 k1
        have : f = d := by omega
        subst this
        omega
  have hs2 : ∀ i k, w2 S c j s i k ≤ S i k ∧ (w2 S c j s i k ≠ 0 → S i k ≠ 0) ∧ (2 ≤ w2 S c j s i k → 2 ≤ S i k) ∧ (w2 S c j s i k = 3 → S i k = 3) ∧ (S i k = 0 → w2 S c j s i k = 0) ∧ (S i k ≤ 1 → w2 S c j s i k ≤ 1) := fun i k => by
    rcases ns i k with y | y
    · obtain ⟨rfl, rfl, y3⟩ := y
      omega
    · omega
  have hn : ∀ k, no3 S k → no3 (w2 S c j s) k := fun k h n hn q => h n hn ((hs2 n k).2.2.2.1 q)
  have g1 : ∀ i : Nat, (m :: L).countP (pG i) = L.countP (pG i) := fun i => cnt_z (by simp [pG, hm])
  have g2 : ∀ i : Nat, (o :: L).countP (pG i) = L.countP (pG i) := fun i => cnt_z (by simp [pG, ho])
  obtain ⟨v1, v2, v3, v4, v5, v6, v7, v8, v9, va, vb, vc⟩ := hV
  simp only [List.forall_mem_cons, fwM_cz (show kd m ≠ 9 by omega), ivM_cz (show kd m ≠ 10 by omega), g1] at v5 v6 v8 v9 va vb vc
  unfold InvV
  simp only [List.forall_mem_cons, fwM_cz (show kd o ≠ 9 by omega), ivM_cz (show kd o ≠ 10 by omega), g2]
  refine ⟨fun i hi k hk q => v1 i hi k hk ((hs2 i k).2.1 q), fun i hi n hn' k hk e q => ?_, v3, v4, ⟨fun q => by omega, v5.2⟩, ⟨fun q i hi k hk q1 q2 q3 => ?_, fun x hx h5 i hi k hk q1 q2 q3 => ?_⟩, fun i hi k hk q0 q1 q3 => ?_, ⟨fun q => by omega, v8.2⟩, fun i hi k hk q => v9 i hi k hk ((hs2 i k).2.1 q), fun i hi k hk q => va i hi k hk ((hs2 i k).2.2.1 q), vb, vc⟩
  · have := v2 i hi n hn' k hk e ((hs2 i k).2.2.1 q)
    exact ⟨(hs2 n k).2.2.2.2.2 this.1, fun q3 => (hs2 n k).2.2.2.2.1 (this.2 ((hs2 i k).2.2.2.1 q3))⟩
  · have e1 : i = d := by omega
    have e2 : k = j := by omega
    subst e1 e2
    exact ⟨hval, n3 q3⟩
  · have := v6.2 x hx h5 i hi k hk q1 q2 q3
    exact ⟨this.1, hn k this.2⟩
  · have := v7 i hi k hk q0 q1 q3
    exact ⟨this.1, hn k this.2⟩
/-- a forward for a writing is answered -/
theorem V_fwdM (hc : c < 4) (hj : j < 16) (hd : d < 4) (hC : InvC R K S V W O H (m :: L)) (hV : InvV N R S V W H (m :: L)) (hm : kd m = 9) (hl : ln m = (j : Int)) (ht : tt m = (c : Int)) (hr : rq m = (d : Int))
    (ho : kd o = 5) (hol : ln o = (j : Int)) (hot : tt o = (d : Int)) : InvV N R (w2 S c j 0) (w2 V c j (-1)) W H (o :: L) := by
  have lk := ((hC.2.2.1 d hd m List.mem_cons_self).2.1 (Or.inr hm) hr).2.2 hm
  have g1 : ∀ i : Nat, (m :: L).countP (pG i) = L.countP (pG i) := fun i => cnt_z (by simp [pG, hm])
  have g2 : ∀ i : Nat, (o :: L).countP (pG i) = L.countP (pG i) := fun i => cnt_z (by simp [pG, ho])
  obtain ⟨v1, v2, v3, v4, v5, v6, v7, v8, v9, va, vb, vc⟩ := V_drop (c := c) (j := j) hV
  simp only [List.forall_mem_cons, fwM_c, ivM_cz (show kd m ≠ 10 by omega), g1] at v5 v6 v8 v9 va vb vc
  unfold InvV
  simp only [List.forall_mem_cons, fwM_cz (show kd o ≠ 9 by omega), ivM_cz (show kd o ≠ 10 by omega), g2]
  refine ⟨v1, v2, v3, v4, ⟨fun q => by omega, v5.2⟩, ⟨fun q i hi k hk q1 q2 q3 => ?_, v6.2⟩, v7, ⟨fun q => by omega, v8.2⟩, fun i hi k hk q => ?_, fun i hi k hk q => ?_, vb, vc⟩
  · have : i = d := by omega
    subst this
    omega
  · rcases v9 i hi k hk q with z | z | z | z | z
    · exact Or.inl z
    · exact Or.inr (Or.inl z)
    · exact Or.inr (Or.inr (Or.inl z))
    · have e1 : i = c := by omega
      have e2 : k = j := by omega
      subst e1 e2
      exact (q (by simp [w2])).elim
    · exact Or.inr (Or.inr (Or.inr z))
  · rcases va i hi k hk q with z | z | z
    · exact Or.inl z
    · have e1 : i = c := by omega
      have e2 : k = j := by omega
      subst e1 e2
      simp [w2] at q
    · exact Or.inr z
/-- an invalidation reaches a cache that does not share the line any more -/
theorem V_inv (hV : InvV N R S V W H (m :: L)) (hm : kd m = 10) (hl : ln m = (j : Int)) (ht : tt m = (c : Int)) (hs : S c j = 0 ∨ 2 ≤ S c j) (ho : kd o = 7) : InvV N R S V W H (o :: L) := by
  refine V_more (Or.inr (Or.inr (Or.inl ho))) ?_
  have g1 : ∀ i : Nat, (m :: L).countP (pG i) = L.countP (pG i) := fun i => cnt_z (by simp [pG, hm])
  obtain ⟨v1, v2, v3, v4, v5, v6, v7, v8, v9, va, vb, vc⟩ := hV
  simp only [List.forall_mem_cons, fwM_cz (show kd m ≠ 9 by omega), ivM_c, g1] at v5 v6 v8 v9 va vb vc
  refine ⟨v1, v2, v3, v4, v5.2, v6.2, v7, v8.2, fun i hi k hk q => ?_, va, vb, vc⟩
  rcases v9 i hi k hk q with z | z | (z | z) | z
  · exact Or.inl z
  · exact Or.inr (Or.inl z)
  · have e1 : i = c := by omega
    have e2 : k = j := by omega
    subst e1 e2
    rcases va i hi k hk (by omega) with y | y
    · exact Or.inl y
    · exact Or.inr (Or.inr (Or.inr y))
  · exact Or.inr (Or.inr (Or.inl z))
  · exact Or.inr (Or.inr (Or.inr z))
/-- PUT_DONE reaches its cache -/
theorem V_pdn (hc : c < 4) (hj : j < 16) (hC : InvC R K S V W O H (m :: L)) (hV : InvV N R S V W H (m :: L)) (hm : kd m = 11) (hl : ln m = (j : Int)) (ht : tt m = (c : Int)) : InvV N R S V (w2 W c j (-1)) H L := by
  have e5 := (ct_pdn hm ht hl L).2.2.2.2.1 c j
  rw [if_pos ⟨rfl, rfl⟩] at e5
  have hP : L.countP (pP c j) = 0 := by
    have := (hC.2.2.2.1 c hc j hj).2.1
    rw [e5] at this
    split at this <;> omega
  obtain ⟨v1, v2, v3, v4, v5, v6, v7, v8, v9, va, vb, vc⟩ := V_less (Or.inr (Or.inr (Or.inr (Or.inr hm)))) hV
  have hw : ∀ i k, (i = c ∧ k = j ∧ w2 W c j (-1) i k = -1) ∨ (¬ (i = c ∧ k = j) ∧ w2 W c j (-1) i k = W i k) := fun i k => by
    unfold w2
    by_cases e : i = c ∧ k = j
    · rw [if_pos e]
      exact Or.inl ⟨e.1, e.2, rfl⟩
    · rw [if_neg e]
      exact Or.inr ⟨e, rfl⟩
  refine ⟨v1, v2, v3, fun i hi k hk q q2 => ?_, fun x hx q i hi k hk q1 q2 => ?_, v6, v7, v8, v9, va, vb, vc⟩
  · rcases hw i k with z | z
    · exact (q2 z.2.2).elim
    · rw [z.2] at q2 ⊢
      exact v4 i hi k hk q q2
  · rcases hw i k with z | z
    · obtain ⟨rfl, rfl, -⟩ := z
      have := cnt_no hP hx
      simp [pP, q, q1, q2] at this
    · rw [z.2]
      exact v5 x hx q i hi k hk q1 q2
end VINV
