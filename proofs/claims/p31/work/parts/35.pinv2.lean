/-! ===== the protocol's invariant: what the caches do ===== -/
theorem w2_eq {f : Nat → Nat → Int} {i j : Nat} {v : Int} : w2 f i j v i j = v := by simp [w2]
theorem w2_ne {f : Nat → Nat → Int} {i j k n : Nat} {v : Int} (h : ¬ (k = i ∧ n = j)) : w2 f i j v k n = f k n := by
  unfold w2
  rw [if_neg h]
theorem w2_ni {f : Nat → Nat → Int} {i j k n : Nat} {v : Int} (h : k ≠ i) : w2 f i j v k n = f k n := w2_ne (fun q => h q.1)
theorem w2_nj {f : Nat → Nat → Int} {i j k n : Nat} {v : Int} (h : n ≠ j) : w2 f i j v k n = f k n := w2_ne (fun q => h q.2)
abbrev fl (O : List Nat) (j : Nat) : List Nat := O.filter (fun k : Nat => decide (k ≠ j))
theorem flt_j {O : List Nat} {j : Nat} : O.filter (fun k : Nat => decide ((k : Int) ≠ (j : Int))) = fl O j := by
  refine List.filter_congr (fun k _ => ?_)
  by_cases h : k = j
  · subst h
    simp
  · have h2 : ¬ (k : Int) = (j : Int) := by omega
    simp only [ne_eq, h, h2, not_false_eq_true, decide_true]
theorem flt_m {O : List Nat} {r : Int} (h : r = -1) : O.filter (fun k : Nat => decide ((k : Int) ≠ r)) = O := List.filter_eq_self.mpr (fun k _ => by
  simp only [decide_eq_true_eq]
  omega)
theorem fl_no {O : List Nat} {j : Nat} (h : j ∉ O) : fl O j = O := List.filter_eq_self.mpr (fun k hk => by
  simp only [decide_eq_true_eq]
  exact fun e => h (e ▸ hk))
theorem fl_len {O : List Nat} {j : Nat} (hn : O.Nodup) (hj : j ∈ O) : (fl O j).length + 1 = O.length := by
  induction O with
  | nil => cases hj
  | cons a l ih =>
    obtain ⟨n1, n2⟩ := List.nodup_cons.mp hn
    by_cases ha : a = j
    · subst ha
      have : fl (a :: l) a = l := by
        have e := fl_no n1
        unfold fl at e ⊢
        rw [List.filter_cons_of_neg (by simp)]
        exact e
      rw [this]
      rfl
    · have hl : j ∈ l := (List.mem_cons.mp hj).resolve_left (fun e => ha e.symm)
      have : fl (a :: l) j = a :: fl l j := by
        unfold fl
        rw [List.filter_cons_of_pos (by simpa using ha)]
      rw [this, List.length_cons, List.length_cons, ih n2 hl]
theorem fl_mem {O : List Nat} {j k : Nat} : k ∈ fl O j ↔ k ∈ O ∧ k ≠ j := by simp [fl, List.mem_filter]
theorem ord_use {O : List Nat} {S S' : Nat → Int} {r0 w : Int} {j : Nat} (h : ordA O S r0 w) (hj : j < 16) (hS : ∀ k, k ≠ j → S' k = S k) (hSj : S' j ≠ 0) (hr : r0 = (j : Int) ∨ (r0 = -1 ∧ j ∈ O)) : ordA (fl O j ++ [j]) S' (-1) w := by
  obtain ⟨h1, h2, h3, h4, h5⟩ := h
  refine ⟨?_, fun k => ?_, ?_, h4, h5⟩
  · rw [List.nodup_append]
    refine ⟨h1.sublist List.filter_sublist, by simp, fun a ha b hb => ?_⟩
    rw [List.mem_singleton.mp hb]
    exact (fl_mem.mp ha).2
  · rw [List.mem_append, List.mem_singleton, fl_mem, h2]
    by_cases hkj : k = j
    · subst hkj
      exact ⟨fun _ => ⟨hj, hSj⟩, fun _ => Or.inr rfl⟩
    · rw [hS k hkj]
      exact ⟨fun q => (q.resolve_right hkj).1, fun q => Or.inl ⟨q, hkj⟩⟩
  · rw [flt_m rfl, List.length_append, List.length_singleton]
    rcases hr with hr | ⟨hr, hm⟩
    · rw [hr, flt_j] at h3
      rw [if_neg (by omega)] at h3
      simp only [if_true]
      omega
    · rw [flt_m hr, if_pos hr] at h3
      have := fl_len h1 hm
      simp only [if_true]
      omega
theorem ord_drop {O : List Nat} {S S' : Nat → Int} {r0 w : Int} {j : Nat} (h : ordA O S r0 w) (hS : ∀ k, k ≠ j → S' k = S k) (hSj : S' j = 0) : ordA (fl O j) S' r0 w := by
  obtain ⟨h1, h2, h3, h4, h5⟩ := h
  refine ⟨h1.sublist List.filter_sublist, fun k => ?_, ?_, h4, h5⟩
  · rw [fl_mem, h2]
    by_cases hkj : k = j
    · subst hkj
      exact ⟨fun q => (q.2 rfl).elim, fun q => (q.2 hSj).elim⟩
    · rw [hS k hkj]
      exact ⟨fun q => q.1, fun q => ⟨q, hkj⟩⟩
  · have : ((fl O j).filter (fun k : Nat => decide ((k : Int) ≠ r0))).length ≤ (O.filter (fun k : Nat => decide ((k : Int) ≠ r0))).length := (List.Sublist.filter _ (List.filter_sublist)).length_le
    omega
theorem ord_open {O : List Nat} {S : Nat → Int} {w : Int} {j : Nat} (h : ordA O S (-1) w) (hj : j < 16) (hr : S j ≠ 0 ∨ (O.length : Int) < w) : ordA O S (j : Int) w := by
  obtain ⟨h1, h2, h3, h4, h5⟩ := h
  refine ⟨h1, h2, ?_, h4, h5⟩
  rw [flt_m rfl, if_pos rfl] at h3
  rw [flt_j, if_neg (by omega)]
  have hle : (fl O j).length ≤ O.length := List.length_filter_le _ _
  rcases hr with hr | hr
  · have := fl_len h1 ((h2 j).mpr ⟨hj, hr⟩)
    omega
  · omega
theorem ord_congr {O : List Nat} {S S' : Nat → Int} {r0 w : Int} (h : ordA O S r0 w) (hS : ∀ k, S' k ≠ 0 ↔ S k ≠ 0) : ordA O S' r0 w := by
  obtain ⟨h1, h2, h3, h4, h5⟩ := h
  exact ⟨h1, fun k => by rw [h2, hS], h3, h4, h5⟩
theorem cnt_rng {f g : Nat → Bool} {j : Nat} (hf : f j = false) (hg : g j = true) (he : ∀ k, k ≠ j → g k = f k) : ∀ n, (List.range n).countP g = (List.range n).countP f + if j < n then 1 else 0 := by
  intro n
  induction n with
  | zero => simp
  | succ n ih =>
    rw [List.range_succ, List.countP_append, List.countP_append, ih]
    by_cases hn : n = j
    · subst hn
      simp [hf, hg]
    · simp only [List.countP_singleton, he n hn]
      by_cases h1 : j < n
      · rw [if_pos h1, if_pos (show j < n + 1 by omega)]
        omega
      · rw [if_neg h1, if_neg (show ¬ j < n + 1 by omega)]
        omega
section PINV
variable {R K S V W : Nat → Nat → Int} {O : Nat → List Nat} {H : Nat → Nat → Int} {L : List M7} {m o : M7} {c j d : Nat}
set_option maxHeartbeats 1000000 in
/-- a request is completed: the line is in the cache, s = 1 for reading, 3 for writing -/
theorem T_fin {s v : Int} (hc : c < 4) (hj : j < 16) (h : InvC R K S V W O H L) (hr0 : R c 0 = (j : Int)) (h3 : R c 3 = 1) (h56 : R c 6 = R c 5) (hs : (R c 1 = 0 ∧ s = 1 ∧ v = R c 4) ∨ (R c 1 = 1 ∧ s = 3 ∧ v = R c 2))
    (ho : kd o = 4) (hol : ln o = (j : Int)) (hof : fr o = (c : Int)) (hot : tt o = -1) : InvC (w2 R c 0 (-1)) K (w2 S c j s) (w2 V c j v) W (va_up O c (fl (O c) j ++ [j])) H (o :: L) := by
  obtain ⟨a0, a1, a2, a3, a4, a5, a6, a7, a8, a9, b0, b1, b2⟩ := h
  obtain ⟨f1, f2, f3, f4, f5, f6, f7⟩ := ct_done ho hol L
  have c1 := a1 c hc
  unfold rqA at c1
  have g1 : L.countP (pG c) = 0 := by omega
  have g2 : L.countP (pF c) = 0 := by omega
  have g3 : L.countP (pD c) = 0 := by omega
  have g4 : L.countP (pX c) = 0 := by omega
  have rr : ∀ i n, n ≠ 0 → w2 R c 0 (-1) i n = R i n := fun i n hn => w2_nj hn
  have r0 : ∀ i, i ≠ c → w2 R c 0 (-1) i 0 = R i 0 := fun i hi => w2_ni hi
  have r0c : w2 R c 0 (-1) c 0 = -1 := w2_eq
  have c6 := a6 c hc j hj
  have c7 := a7 c hc (by omega)
  have hd : ∀ i, i < 4 → ∀ k : Nat, k < 16 → hdA (S i k) (L.countP (pU i k)) → hdA (w2 S c j s i k) (L.countP (pU i k)) := by
    intro i hi k hk q
    by_cases e : i = c ∧ k = j
    · obtain ⟨rfl, rfl⟩ := e
      rw [w2_eq]
      unfold hdA at q ⊢
      unfold valA at c6
      omega
    · rw [w2_ne e]
      exact q
  unfold InvC
  simp only [List.forall_mem_cons, f1, f2, f3, f4, f5, f6, f7, rr _ 1 (by decide), rr _ 2 (by decide), rr _ 3 (by decide), rr _ 4 (by decide), rr _ 5 (by decide), rr _ 6 (by decide)]
  refine ⟨⟨?_, a0⟩, ?_, ?_, ?_, a4, ?_, ?_, ?_, ?_, a9, ?_, ?_, ?_⟩
  · unfold wfm
    omega
  · intro i hi
    by_cases hic : i = c
    · subst hic
      rw [r0c]
      unfold rqA
      omega
    · rw [r0 i hic]
      exact a1 i hi
  · refine fun i hi => ⟨lk_oth (Or.inr (Or.inl ho)), fun x hx => ?_⟩
    by_cases hic : i = c
    · subst hic
      exact lk_none hx g1 g2 g3 g4
    · rw [r0 i hic]
      exact a2 i hi x hx
  · intro i hi k hk
    obtain ⟨q1, q2, q3⟩ := a3 i hi k hk
    refine ⟨q1, q2, fun q => ?_⟩
    obtain ⟨q4, q5⟩ := q3 q
    by_cases hic : i = c
    · subst hic
      have hkj : k ≠ j := fun e => q5 (by omega)
      rw [r0c, w2_nj hkj]
      exact ⟨q4, by omega⟩
    · rw [r0 i hic, w2_ni hic]
      exact ⟨q4, q5⟩
  · intro i hi
    by_cases hic : i = c
    · subst hic
      rw [r0c, va_up_self]
      exact ord_use (a5 i hi) hj (fun k hk => w2_nj hk) (by rw [w2_eq]; omega) (Or.inl hr0)
    · rw [r0 i hic, va_up_ne _ _ hic]
      exact ord_congr (a5 i hi) (fun k => by rw [w2_ni hic])
  · intro i hi k hk
    by_cases hic : i = c
    · subst hic
      rw [r0c]
      by_cases hkj : k = j
      · subst hkj
        rw [w2_eq, w2_eq]
        unfold valA
        rcases hs with ⟨s1, s2, s3⟩ | ⟨s1, s2, s3⟩
        · have := c7.2 h3 s1
          omega
        · have := c7.1 s1
          omega
      · rw [w2_nj hkj, w2_nj hkj]
        have q := a6 i hi k hk
        unfold valA at q ⊢
        omega
    · rw [r0 i hic, w2_ni hic, w2_ni hic]
      exact a6 i hi k hk
  · intro i hi hr
    have hic : i ≠ c := fun e => by
      subst e
      exact hr r0c
    rw [r0 i hic] at hr
    exact a7 i hi hr
  · intro k hk
    have q := a8 k hk
    have e : s4 (fun i => bzA (R i 0) (L.countP (pG i)) k) + bzA (w2 R c 0 (-1) c 0) (L.countP (pG c)) k = s4 (fun i => bzA (w2 R c 0 (-1) i 0) (L.countP (pG i)) k) + bzA (R c 0) (L.countP (pG c)) k := s4_eq (f := fun i => bzA (R i 0) (L.countP (pG i)) k) (g := fun i => bzA (w2 R c 0 (-1) i 0) (L.countP (pG i)) k) hc (fun i hi hic => by simp only [r0 i hic])
    have z1 : bzA (w2 R c 0 (-1) c 0) (L.countP (pG c)) k = 0 := by
      rw [r0c]
      unfold bzA
      rw [if_neg (by omega)]
    have z2 : bzA (R c 0) (L.countP (pG c)) k = if k = j then 1 else 0 := by
      unfold bzA
      rw [hr0, g1]
      by_cases hkj : k = j
      · rw [if_pos (by omega), if_pos hkj]
      · rw [if_neg (by omega), if_neg hkj]
    rw [z1, z2] at e
    by_cases hkj : k = j
    · rw [if_pos hkj] at e ⊢
      exact ⟨q.1, by omega⟩
    · rw [if_neg hkj] at e ⊢
      exact ⟨q.1, by omega⟩
  · intro i hi k hk hw
    rcases b0 i hi k hk hw with q | ⟨q1, q2, q3⟩
    · exact Or.inl (hd i hi k hk q)
    · by_cases hic : i = c
      · subst hic
        obtain rfl : k = j := by omega
        refine Or.inl ?_
        rw [w2_eq]
        unfold hdA
        omega
      · rw [r0 i hic]
        exact Or.inr ⟨q1, q2, q3⟩
  · intro i hi k hk
    exact ⟨fun q => by omega, fun x hx h8 q1 q2 => hd i hi k hk (b1 i hi k hk x hx h8 q1 q2)⟩
  · exact ⟨fun q => by omega, b2⟩
set_option maxHeartbeats 1000000 in
/-- a request is started -/
theorem T_open {w tw : Int} (hc : c < 4) (hj : j < 16) (h : InvC R K S V W O H L) (hr0 : R c 0 = -1) (hW : W c j = -1) (hw : (w = 0 ∧ S c j = 0) ∨ (w = 1 ∧ 0 ≤ tw)) (hroom : S c j ≠ 0 ∨ ((O c).length : Int) < K c 9)
    (ho : kd o = w + 1) (hol : ln o = (j : Int)) (hof : fr o = (c : Int)) (hot : tt o = -1) : InvC (w2 (w2 (w2 (w2 (w2 R c 0 (j : Int)) c 1 w) c 2 tw) c 3 0) c 6 0) K S V W O H (o :: L) := by
  obtain ⟨a0, a1, a2, a3, a4, a5, a6, a7, a8, a9, b0, b1, b2⟩ := h
  obtain ⟨f1, f2, f3, f4, f5, f6, f7⟩ := ct_get (m := o) (c := c) (by omega) hof L
  have c1 := a1 c hc
  unfold rqA at c1
  have g1 : L.countP (pG c) = 0 := by omega
  have g2 : L.countP (pF c) = 0 := by omega
  have g3 : L.countP (pD c) = 0 := by omega
  have g4 : L.countP (pX c) = 0 := by omega
  generalize hR' : w2 (w2 (w2 (w2 (w2 R c 0 (j : Int)) c 1 w) c 2 tw) c 3 0) c 6 0 = R'
  have rn : ∀ i n, i ≠ c → R' i n = R i n := fun i n hi => by simp [← hR', w2, hi]
  have r0 : R' c 0 = (j : Int) := by simp [← hR', w2]
  have r1 : R' c 1 = w := by simp [← hR', w2]
  have r2 : R' c 2 = tw := by simp [← hR', w2]
  have r3 : R' c 3 = 0 := by simp [← hR', w2]
  have r6 : R' c 6 = 0 := by simp [← hR', w2]
  clear hR'
  unfold InvC
  simp only [List.forall_mem_cons, f1, f2, f3, f4, f5, f6, f7]
  refine ⟨⟨?_, a0⟩, ?_, ?_, ?_, a4, ?_, ?_, ?_, ?_, a9, ?_, ?_, ?_⟩
  · unfold wfm
    omega
  · intro i hi
    by_cases hic : i = c
    · subst hic
      rw [r0, r1, r3, r6, g1, g2, g3, g4, if_pos rfl]
      unfold rqA
      omega
    · simp only [rn i _ hic, if_neg hic, Nat.add_zero]
      exact a1 i hi
  · refine fun i hi => ⟨lk_get (c := c) (by omega) hof (fun e => by subst e; omega), fun x hx => ?_⟩
    by_cases hic : i = c
    · subst hic
      exact lk_none hx g1 g2 g3 g4
    · simp only [rn i _ hic]
      exact a2 i hi x hx
  · intro i hi k hk
    obtain ⟨q1, q2, q3⟩ := a3 i hi k hk
    refine ⟨q1, q2, fun q => ?_⟩
    by_cases hic : i = c
    · subst hic
      rw [r0]
      refine ⟨(q3 q).1, fun e => q ?_⟩
      obtain rfl : j = k := by omega
      exact hW
    · rw [rn i _ hic]
      exact q3 q
  · intro i hi
    by_cases hic : i = c
    · subst hic
      rw [r0]
      have q := a5 i hi
      rw [hr0] at q
      exact ord_open q hj hroom
    · rw [rn i _ hic]
      exact a5 i hi
  · intro i hi k hk
    have q := a6 i hi k hk
    by_cases hic : i = c
    · subst hic
      rw [r0, r1]
      unfold valA at q ⊢
      refine ⟨q.1, q.2.1, q.2.2.1, q.2.2.2.1, fun e1 e2 => ?_⟩
      obtain rfl : j = k := by omega
      omega
    · rw [rn i _ hic, rn i _ hic]
      exact q
  · intro i hi hr
    by_cases hic : i = c
    · subst hic
      rw [r1, r2, r3]
      omega
    · rw [rn i _ hic] at hr
      have q := a7 i hi hr
      simp only [rn i _ hic]
      exact q
  · intro k hk
    have q := a8 k hk
    have e : s4 (fun i => bzA (R i 0) (L.countP (pG i)) k) = s4 (fun i => bzA (R' i 0) (L.countP (pG i) + if i = c then 1 else 0) k) := by
      refine s4_congr (fun i hi => ?_)
      by_cases hic : i = c
      · subst hic
        unfold bzA
        rw [if_neg (by omega), if_neg (by simp)]
      · simp only [rn i _ hic, if_neg hic, Nat.add_zero]
    rw [← e]
    exact q
  · intro i hi k hk hw2
    rcases b0 i hi k hk hw2 with q | ⟨q1, q2, q3⟩
    · exact Or.inl q
    · have hic : i ≠ c := fun e => by subst e; omega
      simp only [rn i _ hic, if_neg hic, Nat.add_zero]
      exact Or.inr ⟨q1, q2, q3⟩
  · exact fun i hi k hk => ⟨fun q => by omega, b1 i hi k hk⟩
  · exact ⟨fun q => by omega, b2⟩
/-- a line is used again -/
theorem T_use {v : Int} (hc : c < 4) (hj : j < 16) (h : InvC R K S V W O H L) (hr0 : R c 0 = -1) (hs : S c j ≠ 0) (hv : 0 ≤ v) : InvC R K S (w2 V c j v) W (va_up O c (fl (O c) j ++ [j])) H L := by
  obtain ⟨a0, a1, a2, a3, a4, a5, a6, a7, a8, a9, b0, b1, b2⟩ := h
  refine ⟨a0, a1, a2, a3, a4, fun i hi => ?_, fun i hi k hk => ?_, a7, a8, a9, b0, b1, b2⟩
  · by_cases hic : i = c
    · subst hic
      rw [va_up_self]
      have q := a5 i hi
      rw [hr0] at q ⊢
      exact ord_use q hj (fun _ _ => rfl) hs (Or.inr ⟨rfl, (q.2.1 j).mpr ⟨hj, hs⟩⟩)
    · rw [va_up_ne _ _ hic]
      exact a5 i hi
  · have q := a6 i hi k hk
    by_cases e : i = c ∧ k = j
    · obtain ⟨rfl, rfl⟩ := e
      rw [w2_eq]
      unfold valA at q ⊢
      refine ⟨q.1, q.2.1, fun e => (hs e).elim, fun _ => hv, q.2.2.2.2⟩
    · rw [w2_ne e]
      exact q
/-- what a removal of line j from cache c leaves alone -/
theorem hd_drop {n : Nat} {i k : Nat} (hs : S c j ≤ 1) (q : hdA (S i k) n) : hdA (w2 S c j 0 i k) n := by
  by_cases e : i = c ∧ k = j
  · obtain ⟨rfl, rfl⟩ := e
    rw [w2_eq]
    unfold hdA at q ⊢
    omega
  · rw [w2_ne e]
    exact q
theorem val_drop {i k : Nat} {r0 r1 : Int} (q : valA (S i k) (V i k) r0 r1 k) : valA (w2 S c j 0 i k) (w2 V c j (-1) i k) r0 r1 k := by
  by_cases e : i = c ∧ k = j
  · obtain ⟨rfl, rfl⟩ := e
    rw [w2_eq, w2_eq]
    unfold valA
    omega
  · rw [w2_ne e, w2_ne e]
    exact q
theorem ord_drops {i : Nat} {r0 w : Int} (q : ordA (O i) (S i) r0 w) : ordA (va_up O c (fl (O c) j) i) (w2 S c j 0 i) r0 w := by
  by_cases hic : i = c
  · subst hic
    rw [va_up_self]
    exact ord_drop q (fun k hk => w2_nj hk) w2_eq
  · rw [va_up_ne _ _ hic]
    exact ord_congr q (fun k => by rw [w2_ni hic])
theorem s_drop {i k : Nat} (q : S i k = 0) : w2 S c j 0 i k = 0 := by
  unfold w2
  split
  · rfl
  · exact q
/-- a shared line vanishes -/
theorem T_out1 (hc : c < 4) (hj : j < 16) (h : InvC R K S V W O H L) (hs : S c j = 1) : InvC R K (w2 S c j 0) (w2 V c j (-1)) W (va_up O c (fl (O c) j)) H L := by
  obtain ⟨a0, a1, a2, a3, a4, a5, a6, a7, a8, a9, b0, b1, b2⟩ := h
  refine ⟨a0, a1, a2, fun i hi k hk => ?_, a4, fun i hi => ord_drops (a5 i hi), fun i hi k hk => val_drop (a6 i hi k hk), a7, a8, a9, fun i hi k hk hw => ?_, fun i hi k hk x hx h8 q1 q2 => hd_drop (by omega) (b1 i hi k hk x hx h8 q1 q2), b2⟩
  · obtain ⟨q1, q2, q3⟩ := a3 i hi k hk
    exact ⟨q1, q2, fun q => ⟨s_drop (q3 q).1, (q3 q).2⟩⟩
  · rcases b0 i hi k hk hw with q | q
    · exact Or.inl (hd_drop (by omega) q)
    · exact Or.inr q
/-- another line goes to the victim buffer -/
theorem T_out2 (hc : c < 4) (hj : j < 16) (h : InvC R K S V W O H L) (hs : S c j ≠ 0) (hs1 : S c j ≠ 1) (hr : R c 0 ≠ (j : Int)) (hK : K c 8 < K c 10)
    (ho : kd o = 3) (hol : ln o = (j : Int)) (hof : fr o = (c : Int)) (hot : tt o = -1) (hov : vl o = V c j) : InvC R (w2 K c 8 (K c 8 + 1)) (w2 S c j 0) (w2 V c j (-1)) (w2 W c j (V c j)) (va_up O c (fl (O c) j)) H (o :: L) := by
  obtain ⟨a0, a1, a2, a3, a4, a5, a6, a7, a8, a9, b0, b1, b2⟩ := h
  obtain ⟨f1, f2, f3, f4, f5, f6, f7⟩ := ct_put ho hof hol L
  have c6 := a6 c hc j hj
  unfold valA at c6
  have hv : 0 ≤ V c j := c6.2.2.2.1 hs
  obtain ⟨w1, w3, w4⟩ := a3 c hc j hj
  have hW : W c j = -1 := Decidable.byContradiction fun q => hs (w4 q).1
  have hd : ∀ i, i < 4 → ∀ k : Nat, k < 16 → hdA (S i k) (L.countP (pU i k)) → hdA (w2 S c j 0 i k) (L.countP (pU i k) + if i = c ∧ k = j then 1 else 0) := by
    intro i hi k hk q
    by_cases e : i = c ∧ k = j
    · rw [if_pos e]
      unfold hdA
      omega
    · rw [if_neg e, w2_ne e]
      exact q
  unfold InvC
  simp only [List.forall_mem_cons, f1, f2, f3, f4, f5, f6, f7]
  refine ⟨⟨?_, a0⟩, a1, fun i hi => ⟨lk_oth (Or.inl ho), a2 i hi⟩, ?_, ?_, ?_, fun i hi k hk => val_drop (a6 i hi k hk), a7, a8, a9, ?_, ?_, ?_⟩
  · unfold wfm
    omega
  · intro i hi k hk
    obtain ⟨q1, q2, q3⟩ := a3 i hi k hk
    by_cases e : i = c ∧ k = j
    · obtain ⟨rfl, rfl⟩ := e
      rw [w2_eq, w2_eq, q2, if_pos hW, if_pos ⟨rfl, rfl⟩, if_neg (by omega)]
      exact ⟨by omega, rfl, fun _ => ⟨rfl, hr⟩⟩
    · rw [w2_ne e, w2_ne e, if_neg e]
      exact ⟨q1, q2, q3⟩
  · intro i hi
    obtain ⟨q1, q2, q3⟩ := a4 i hi
    by_cases hic : i = c
    · subst hic
      rw [w2_eq, w2_nj (by decide)]
      have e := cnt_rng (f := fun k => decide (W i k ≠ -1)) (g := fun k => decide (w2 W i j (V i j) i k ≠ -1)) (j := j) (by simp [hW]) (by simp only [w2_eq, decide_eq_true_eq]; omega) (fun k hk => by simp only [w2_nj hk]) 16
      rw [if_pos hj] at e
      rw [e]
      exact ⟨by omega, by omega, q3⟩
    · rw [w2_ni hic, w2_ni hic]
      simp only [w2_ni hic]
      exact ⟨q1, q2, q3⟩
  · intro i hi
    rw [show w2 K c 8 (K c 8 + 1) i 9 = K i 9 from w2_nj (by decide)]
    exact ord_drops (a5 i hi)
  · intro i hi k hk hw
    rcases b0 i hi k hk hw with q | q
    · exact Or.inl (hd i hi k hk q)
    · exact Or.inr q
  · exact fun i hi k hk => ⟨fun q => by omega, fun x hx h8 q1 q2 => hd i hi k hk (b1 i hi k hk x hx h8 q1 q2)⟩
  · exact ⟨fun q => by omega, b2⟩
set_option maxHeartbeats 1000000 in
/-- FORWARD_SHARED is delivered -/
theorem T_fwdS {s : Int} (hc : c < 4) (hj : j < 16) (hd : d < 4) (h : InvC R K S V W O H (m :: L)) (hm : kd m = 8) (hl : ln m = (j : Int)) (ht : tt m = (c : Int)) (hr : rq m = (d : Int)) (hs : s = S c j ∨ (S c j = 3 ∧ s = 2))
    (ho : kd o = 5) (hol : ln o = (j : Int)) (hot : tt o = (d : Int)) (hov : vl o = if S c j = 0 then W c j else V c j) (hoc : cn o = cn m) : InvC R K (w2 S c j s) V W O H (o :: L) := by
  obtain ⟨a0, a1, a2, a3, a4, a5, a6, a7, a8, a9, b0, b1, b2⟩ := h
  obtain ⟨e1, e2, e3, e4, e5, e6, e7⟩ := ct_fwd (Or.inl hm) hr L
  simp only [List.forall_mem_cons, e1, e2, e3, e4, e5, e6, e7] at a0 a1 a2 a3 a4 a5 a6 a7 a8 a9 b0 b1 b2
  obtain ⟨f1, f2, f3, f4, f5, f6, f7⟩ := ct_ans (Or.inl ho) hot L
  have c2 := (a2 d hd).1.2.1 (Or.inl hm) hr
  have hown := (b1 c hc j hj).1 (Or.inl hm) ht hl
  have c6 := a6 c hc j hj
  obtain ⟨w1, w3, w4⟩ := a3 c hc j hj
  have hUP := cnt_UP (i := c) (j := j) (L := L)
  unfold hdA at hown
  unfold valA at c6
  have hv : 0 ≤ vl o := by
    rw [hov]
    by_cases z : S c j = 0
    · rw [if_pos z]
      by_cases z2 : W c j = -1
      · rw [if_pos z2] at w3
        omega
      · omega
    · rw [if_neg z]
      exact c6.2.2.2.1 z
  have nz : ∀ i k, w2 S c j s i k ≠ 0 ↔ S i k ≠ 0 := by
    intro i k
    by_cases e : i = c ∧ k = j
    · obtain ⟨rfl, rfl⟩ := e
      rw [w2_eq]
      omega
    · rw [w2_ne e]
  have hdd : ∀ i k n, hdA (S i k) n → hdA (w2 S c j s i k) n := by
    intro i k n q
    by_cases e : i = c ∧ k = j
    · obtain ⟨rfl, rfl⟩ := e
      rw [w2_eq]
      unfold hdA at q ⊢
      omega
    · rw [w2_ne e]
      exact q
  unfold InvC
  simp only [List.forall_mem_cons, f1, f2, f3, f4, f5, f6, f7]
  refine ⟨⟨?_, a0.2⟩, ?_, ?_, ?_, a4, fun i hi => ord_congr (a5 i hi) (nz i), ?_, a7, a8, a9, ?_, ?_, ?_⟩
  · unfold wfm
    omega
  · intro i hi
    have q := a1 i hi
    by_cases hic : i = d
    · subst hic
      unfold rqA at q ⊢
      simp only [if_true] at q ⊢
      omega
    · simp only [if_neg hic, Nat.add_zero] at q ⊢
      exact q
  · exact fun i hi => ⟨lk_ans (Or.inl ho) hot (fun e => by subst e; omega), (a2 i hi).2⟩
  · intro i hi k hk
    obtain ⟨q1, q2, q3⟩ := a3 i hi k hk
    exact ⟨q1, q2, fun q => ⟨Decidable.byContradiction fun z => (nz i k).mp z (q3 q).1, (q3 q).2⟩⟩
  · intro i hi k hk
    have q := a6 i hi k hk
    by_cases e : i = c ∧ k = j
    · obtain ⟨rfl, rfl⟩ := e
      rw [w2_eq]
      unfold valA at q ⊢
      omega
    · rw [w2_ne e]
      exact q
  · intro i hi k hk hw
    rcases b0 i hi k hk hw with q | q
    · exact Or.inl (hdd i k _ q)
    · exact Or.inr q
  · exact fun i hi k hk => ⟨fun q => by omega, fun x hx h8 q1 q2 => hdd i k _ ((b1 i hi k hk).2 x hx h8 q1 q2)⟩
  · exact ⟨fun q => by omega, b2.2⟩
set_option maxHeartbeats 1000000 in
/-- FORWARD_MODIFIED is delivered -/
theorem T_fwdM (hc : c < 4) (hj : j < 16) (hd : d < 4) (h : InvC R K S V W O H (m :: L)) (hm : kd m = 9) (hl : ln m = (j : Int)) (ht : tt m = (c : Int)) (hr : rq m = (d : Int))
    (ho : kd o = 5) (hol : ln o = (j : Int)) (hot : tt o = (d : Int)) (hov : vl o = if S c j = 0 then W c j else V c j) (hoc : cn o = cn m) : InvC R K (w2 S c j 0) (w2 V c j (-1)) W (va_up O c (fl (O c) j)) H (o :: L) := by
  have huniq : ∀ x ∈ L, (kd x = 8 ∨ kd x = 9) → ln x ≠ (j : Int) := by
    intro x hx h8 hlx
    obtain ⟨i1, u1, u2, u3, u4, u5, u6, u7⟩ := h.fwd hj (List.mem_cons_of_mem _ hx) h8 hlx
    obtain ⟨i2, v1, v2, v3, v4, v5, v6, v7⟩ := h.fwd hj List.mem_cons_self (Or.inr hm) hl
    obtain rfl : i2 = d := by omega
    by_cases hid : i1 = i2
    · subst hid
      have : 0 < L.countP (pF i1) := cnt_yes hx (by simp [pF, h8, u2])
      have e := (ct_fwd (Or.inr hm) hr L).2.1 i1
      rw [if_pos rfl] at e
      omega
    · have q := s4_le2 (f := fun i => bzA (R i 0) ((m :: L).countP (pG i)) j) u1 v1 hid (fun k _ => bz_pos _ _ _)
      have q2 := (h.2.2.2.2.2.2.2.2.1 j hj).2
      have e1 : bzA (R i1 0) ((m :: L).countP (pG i1)) j + bzA (R i2 0) ((m :: L).countP (pG i2)) j ≤ s4 (fun i => bzA (R i 0) ((m :: L).countP (pG i)) j) := q
      omega
  obtain ⟨a0, a1, a2, a3, a4, a5, a6, a7, a8, a9, b0, b1, b2⟩ := h
  obtain ⟨e1, e2, e3, e4, e5, e6, e7⟩ := ct_fwd (Or.inr hm) hr L
  simp only [List.forall_mem_cons, e1, e2, e3, e4, e5, e6, e7] at a0 a1 a2 a3 a4 a5 a6 a7 a8 a9 b0 b1 b2
  obtain ⟨f1, f2, f3, f4, f5, f6, f7⟩ := ct_ans (Or.inl ho) hot L
  have c1 := a1 d hd
  have c2 := (a2 d hd).1.2.1 (Or.inr hm) hr
  have hown := (b1 c hc j hj).1 (Or.inr hm) ht hl
  have c6 := a6 c hc j hj
  obtain ⟨w1, w3, w4⟩ := a3 c hc j hj
  have hUP := cnt_UP (i := c) (j := j) (L := L)
  unfold hdA at hown
  unfold valA at c6
  unfold rqA at c1
  rw [if_pos rfl] at c1
  have hv : 0 ≤ vl o := by
    rw [hov]
    by_cases z : S c j = 0
    · rw [if_pos z]
      by_cases z2 : W c j = -1
      · rw [if_pos z2] at w3
        omega
      · omega
    · rw [if_neg z]
      exact c6.2.2.2.1 z
  have hdd : ∀ i k n, ¬ (i = c ∧ k = j) → hdA (S i k) n → hdA (w2 S c j 0 i k) n := by
    intro i k n e q
    rw [w2_ne e]
    exact q
  unfold InvC
  simp only [List.forall_mem_cons, f1, f2, f3, f4, f5, f6, f7]
  refine ⟨⟨?_, a0.2⟩, ?_, ?_, ?_, a4, fun i hi => ord_drops (a5 i hi), fun i hi k hk => val_drop (a6 i hi k hk), a7, a8, a9, ?_, ?_, ?_⟩
  · unfold wfm
    omega
  · intro i hi
    have q := a1 i hi
    by_cases hic : i = d
    · subst hic
      unfold rqA at q ⊢
      simp only [if_true] at q ⊢
      omega
    · simp only [if_neg hic, Nat.add_zero] at q ⊢
      exact q
  · exact fun i hi => ⟨lk_ans (Or.inl ho) hot (fun e => by subst e; omega), (a2 i hi).2⟩
  · intro i hi k hk
    obtain ⟨q1, q2, q3⟩ := a3 i hi k hk
    exact ⟨q1, q2, fun q => ⟨s_drop (q3 q).1, (q3 q).2⟩⟩
  · intro i hi k hk hw
    rcases b0 i hi k hk hw with q | q
    · by_cases e : i = c ∧ k = j
      · obtain ⟨rfl, rfl⟩ := e
        have z := b2.1 hm k hk hl
        obtain rfl : i = d := by omega
        exact Or.inr (by omega)
      · exact Or.inl (hdd i k _ e q)
    · exact Or.inr q
  · refine fun i hi k hk => ⟨fun q => by omega, fun x hx h8 q1 q2 => ?_⟩
    have e : ¬ (i = c ∧ k = j) := fun e => huniq x hx h8 (by omega)
    exact hdd i k _ e ((b1 i hi k hk).2 x hx h8 q1 q2)
  · exact ⟨fun q => by omega, b2.2⟩
/-- INVALIDATE is delivered (a shared line has vanished before) -/
theorem T_inv (hj : j < 16) (hd : d < 4) (h : InvC R K S V W O H (m :: L)) (hm : kd m = 10) (hl : ln m = (j : Int)) (hr : rq m = (d : Int))
    (ho : kd o = 7) (hol : ln o = (j : Int)) (hot : tt o = (d : Int)) : InvC R K S V W O H (o :: L) := by
  obtain ⟨a0, a1, a2, a3, a4, a5, a6, a7, a8, a9, b0, b1, b2⟩ := h
  obtain ⟨e1, e2, e3, e4, e5, e6, e7⟩ := ct_inv hm hr L
  simp only [List.forall_mem_cons, e1, e2, e3, e4, e5, e6, e7] at a0 a1 a2 a3 a4 a5 a6 a7 a8 a9 b0 b1 b2
  obtain ⟨f1, f2, f3, f4, f5, f6, f7⟩ := ct_ack ho hot L
  have c2 := (a2 d hd).1.2.2.2.1 hm hr
  unfold InvC
  simp only [List.forall_mem_cons, f1, f2, f3, f4, f5, f6, f7]
  refine ⟨⟨?_, a0.2⟩, a1, fun i hi => ⟨lk_ack ho hot (fun e => by subst e; omega), (a2 i hi).2⟩, a3, a4, a5, a6, a7, a8, a9, b0, fun i hi k hk => ⟨fun q => by omega, (b1 i hi k hk).2⟩, fun q => by omega, b2.2⟩
  unfold wfm
  omega
/-- PUT_DONE is delivered -/
theorem T_pdn (hc : c < 4) (hj : j < 16) (h : InvC R K S V W O H (m :: L)) (hm : kd m = 11) (hl : ln m = (j : Int)) (ht : tt m = (c : Int)) : InvC R (w2 K c 8 (K c 8 - 1)) S V (w2 W c j (-1)) O H L := by
  obtain ⟨a0, a1, a2, a3, a4, a5, a6, a7, a8, a9, b0, b1, b2⟩ := h
  obtain ⟨e1, e2, e3, e4, e5, e6, e7⟩ := ct_pdn hm ht hl L
  simp only [List.forall_mem_cons, e1, e2, e3, e4, e5, e6, e7] at a0 a1 a2 a3 a4 a5 a6 a7 a8 a9 b0 b1 b2
  obtain ⟨w1, w3, w4⟩ := a3 c hc j hj
  rw [if_pos ⟨rfl, rfl⟩] at w3
  have hW : W c j ≠ -1 := fun e => by
    rw [if_pos e] at w3
    omega
  rw [if_neg hW] at w3
  refine ⟨a0.2, a1, fun i hi => (a2 i hi).2, ?_, ?_, ?_, a6, a7, a8, a9, b0, fun i hi k hk => (b1 i hi k hk).2, b2.2⟩
  · intro i hi k hk
    obtain ⟨q1, q2, q3⟩ := a3 i hi k hk
    by_cases e : i = c ∧ k = j
    · obtain ⟨rfl, rfl⟩ := e
      rw [w2_eq, if_pos rfl]
      exact ⟨by omega, by omega, fun q => (q rfl).elim⟩
    · rw [if_neg e] at q2
      rw [w2_ne e]
      exact ⟨q1, q2, q3⟩
  · intro i hi
    obtain ⟨q1, q2, q3⟩ := a4 i hi
    by_cases hic : i = c
    · subst hic
      rw [w2_eq, w2_nj (by decide)]
      have e := cnt_rng (g := fun k => decide (W i k ≠ -1)) (f := fun k => decide (w2 W i j (-1) i k ≠ -1)) (j := j) (by simp [w2_eq]) (by simp only [decide_eq_true_eq]; exact hW) (fun k hk => by simp only [w2_nj hk]) 16
      rw [if_pos hj] at e
      rw [e] at q1
      exact ⟨by omega, by omega, q3⟩
    · rw [w2_ni hic, w2_ni hic]
      simp only [w2_ni hic]
      exact ⟨q1, q2, q3⟩
  · intro i hi
    rw [show w2 K c 8 (K c 8 - 1) i 9 = K i 9 from w2_nj (by decide)]
    exact a5 i hi
/-- the room of a cache that is not in use is set -/
theorem T_room {w b : Int} (h : InvC R K S V W O H L) (hO : c < 4 → O c = []) (hK : K c 8 = 0) (hr : R c 0 = -1) (hw : 1 ≤ w) (hw4 : w ≤ 4) (hb : 0 ≤ b) (hb2 : b ≤ 2) : InvC R (w2 (w2 K c 9 w) c 10 b) S V W O H L := by
  obtain ⟨a0, a1, a2, a3, a4, a5, a6, a7, a8, a9, b0, b1, b2⟩ := h
  refine ⟨a0, a1, a2, a3, fun i hi => ?_, fun i hi => ?_, a6, a7, a8, a9, b0, b1, b2⟩
  · obtain ⟨q1, q2, q3⟩ := a4 i hi
    by_cases hic : i = c
    · subst hic
      rw [w2_eq, w2_nj (by decide), w2_nj (by decide)]
      exact ⟨q1, by omega, by omega⟩
    · rw [w2_ni hic, w2_ni hic, w2_ni hic, w2_ni hic]
      exact ⟨q1, q2, q3⟩
  · have q := a5 i hi
    by_cases hic : i = c
    · subst hic
      rw [w2_nj (by decide), w2_eq]
      obtain ⟨p1, p2, p3, p4, p5⟩ := q
      refine ⟨p1, p2, ?_, hw, hw4⟩
      rw [hO hi, hr, if_pos rfl]
      simp
      omega
    · rw [w2_ni hic, w2_ni hic]
      exact q
theorem InvC.eqK {K' : Nat → Nat → Int} (h : InvC R K S V W O H L) (h8 : ∀ i, K' i 8 = K i 8) (h9 : ∀ i, K' i 9 = K i 9) (h10 : ∀ i, K' i 10 = K i 10) : InvC R K' S V W O H L := by
  obtain ⟨a0, a1, a2, a3, a4, a5, a6, a7, a8, a9, b0, b1, b2⟩ := h
  exact ⟨a0, a1, a2, a3, fun i hi => by rw [h8, h10]; exact a4 i hi, fun i hi => by rw [h9]; exact a5 i hi, a6, a7, a8, a9, b0, b1, b2⟩
theorem InvC.eqH {H' : Nat → Nat → Int} (h : InvC R K S V W O H L) (h3 : ∀ i, H' i 3 = H i 3) (h4 : ∀ i, H' i 4 = H i 4) (h5 : ∀ i, H' i 5 = H i 5) (h6 : ∀ i, H' i 6 = H i 6) : InvC R K S V W O H' L := by
  obtain ⟨a0, a1, a2, a3, a4, a5, a6, a7, a8, a9, b0, b1, b2⟩ := h
  exact ⟨a0, a1, a2, a3, a4, a5, a6, a7, fun j hj => by rw [h6]; exact a8 j hj, fun j hj => by rw [h3, h4, h5]; exact a9 j hj, fun i hi j hj q => b0 i hi j hj (by rw [← h4]; exact q), b1, fun m hm h9 j hj q => by rw [h4]; exact b2 m hm h9 j hj q⟩
end PINV
/-! how many messages there are at most -/
def zN (n : Nat) (f : Nat → Nat) : Nat := ((List.range n).map f).sum
theorem zN_succ (n : Nat) (f : Nat → Nat) : zN (n + 1) f = zN n f + f n := by
  unfold zN
  rw [List.range_succ, List.map_append, List.sum_append]
  simp
theorem zN_mono {n : Nat} {f g : Nat → Nat} (h : ∀ k, k < n → f k ≤ g k) : zN n f ≤ zN n g := by
  induction n with
  | zero => exact Nat.le_refl _
  | succ n ih =>
    rw [zN_succ, zN_succ]
    have := ih (fun k hk => h k (by omega))
    have := h n (by omega)
    omega
theorem zN_inc {n c : Nat} {f g : Nat → Nat} (h : ∀ k, k < n → f k ≤ g k) (hc : c < n) (hi : f c + 1 ≤ g c) : zN n f + 1 ≤ zN n g := by
  induction n with
  | zero => omega
  | succ n ih =>
    rw [zN_succ, zN_succ]
    have h1 := h n (by omega)
    by_cases hcn : c = n
    · subst hcn
      have := zN_mono (n := c) (fun k hk => h k (show k < c + 1 by omega))
      omega
    · have := ih (fun k hk => h k (by omega)) (by omega)
      omega
theorem zN_le {n m : Nat} {f : Nat → Nat} (h : ∀ k, k < n → f k ≤ m) : zN n f ≤ n * m := by
  induction n with
  | zero => simp [zN]
  | succ n ih =>
    rw [zN_succ, Nat.succ_mul]
    have := ih (fun k hk => h k (by omega))
    have := h n (by omega)
    omega
theorem zN_ind {n : Nat} {p : Nat → Prop} [DecidablePred p] : zN n (fun k => if p k then 0 else 1) = (List.range n).countP (fun k => decide (¬ p k)) := by
  induction n with
  | zero => rfl
  | succ n ih =>
    rw [zN_succ, List.range_succ, List.countP_append, ih]
    by_cases h : p n <;> simp [h]
/-- a message is counted once at least -/
def mTot (L : List M7) : Nat := zN 4 (fun i => L.countP (pG i) + L.countP (pF i) + L.countP (pD i) + L.countP (pX i) + zN 16 (fun k => L.countP (pP i k))) + zN 16 (fun k => L.countP (pN k))
theorem mTot_le {L : List M7} (h : ∀ m ∈ L, wfm m) : L.length ≤ mTot L := by
  induction L with
  | nil => exact Nat.zero_le _
  | cons m L ih =>
    have q := ih (fun x hx => h x (List.mem_cons_of_mem _ hx))
    have w := h m List.mem_cons_self
    unfold wfm at w
    obtain ⟨w1, w2, w3, w4, -, -⟩ := w
    obtain ⟨j, hj⟩ : ∃ j : Nat, ln m = (j : Int) := ⟨(ln m).toNat, by omega⟩
    have hmo : ∀ p : M7 → Bool, L.countP p ≤ (m :: L).countP p := fun p => by
      rw [List.countP_cons]
      omega
    have hN : zN 16 (fun k => L.countP (pN k)) ≤ zN 16 (fun k => (m :: L).countP (pN k)) := zN_mono (fun k _ => hmo _)
    have hA : ∀ i, L.countP (pG i) + L.countP (pF i) + L.countP (pD i) + L.countP (pX i) + zN 16 (fun k => L.countP (pP i k)) ≤ (m :: L).countP (pG i) + (m :: L).countP (pF i) + (m :: L).countP (pD i) + (m :: L).countP (pX i) + zN 16 (fun k => (m :: L).countP (pP i k)) := fun i => by
      have h1 := hmo (pG i)
      have h2 := hmo (pF i)
      have h3 := hmo (pD i)
      have h4 := hmo (pX i)
      have h5 : zN 16 (fun k => L.countP (pP i k)) ≤ zN 16 (fun k => (m :: L).countP (pP i k)) := zN_mono (fun k _ => hmo _)
      omega
    have hone : mTot L + 1 ≤ mTot (m :: L) := by
      unfold mTot
      by_cases h4 : kd m = 4
      · have e := (ct_done h4 hj L).2.2.2.2.2.2
        have z : zN 16 (fun k => L.countP (pN k)) + 1 ≤ zN 16 (fun k => (m :: L).countP (pN k)) := zN_inc (fun k _ => hmo _) (show j < 16 by omega) (by rw [e, if_pos rfl]; exact Nat.le_refl _)
        have z2 := zN_mono (n := 4) (fun i _ => hA i)
        omega
      · obtain ⟨c, hc, hcc⟩ : ∃ c : Nat, c < 4 ∧ (L.countP (pG c) + L.countP (pF c) + L.countP (pD c) + L.countP (pX c) + zN 16 (fun k => L.countP (pP c k))) + 1 ≤ (m :: L).countP (pG c) + (m :: L).countP (pF c) + (m :: L).countP (pD c) + (m :: L).countP (pX c) + zN 16 (fun k => (m :: L).countP (pP c k)) := by
          obtain ⟨c1, hc1⟩ : ∃ c : Nat, (0 ≤ fr m → fr m = (c : Int)) := ⟨(fr m).toNat, by omega⟩
          obtain ⟨c2, hc2⟩ : ∃ c : Nat, (0 ≤ tt m → tt m = (c : Int)) := ⟨(tt m).toNat, by omega⟩
          obtain ⟨c3, hc3⟩ : ∃ c : Nat, (0 ≤ rq m → rq m = (c : Int)) := ⟨(rq m).toNat, by omega⟩
          have hP : ∀ c, zN 16 (fun k => L.countP (pP c k)) ≤ zN 16 (fun k => (m :: L).countP (pP c k)) := fun c => zN_mono (fun k _ => hmo _)
          by_cases k12 : kd m = 1 ∨ kd m = 2
          · have e := (ct_get k12 (hc1 (by omega)) L).1 c1
            rw [if_pos rfl] at e
            have h2 := hmo (pF c1)
            have h3 := hmo (pD c1)
            have h4 := hmo (pX c1)
            have h5 := hP c1
            exact ⟨c1, by omega, by omega⟩
          by_cases k3 : kd m = 3
          · have e := (ct_put k3 (hc1 (by omega)) hj L).2.2.2.2.1
            have z : zN 16 (fun k => L.countP (pP c1 k)) + 1 ≤ zN 16 (fun k => (m :: L).countP (pP c1 k)) := zN_inc (fun k _ => hmo _) (show j < 16 by omega) (by rw [e, if_pos ⟨rfl, rfl⟩]; exact Nat.le_refl _)
            have h1 := hmo (pG c1)
            have h2 := hmo (pF c1)
            have h3 := hmo (pD c1)
            have h4 := hmo (pX c1)
            exact ⟨c1, by omega, by omega⟩
          by_cases k56 : kd m = 5 ∨ kd m = 6
          · have e := (ct_ans k56 (hc2 (by omega)) L).2.2.1 c2
            rw [if_pos rfl] at e
            have h1 := hmo (pG c2)
            have h2 := hmo (pF c2)
            have h4 := hmo (pX c2)
            have h5 := hP c2
            exact ⟨c2, by omega, by omega⟩
          by_cases k7 : kd m = 7
          · have e := (ct_ack k7 (hc2 (by omega)) L).2.2.2.1 c2
            rw [if_pos rfl] at e
            have h1 := hmo (pG c2)
            have h2 := hmo (pF c2)
            have h3 := hmo (pD c2)
            have h5 := hP c2
            exact ⟨c2, by omega, by omega⟩
          by_cases k89 : kd m = 8 ∨ kd m = 9
          · have e := (ct_fwd k89 (hc3 (by omega)) L).2.1 c3
            rw [if_pos rfl] at e
            have h1 := hmo (pG c3)
            have h3 := hmo (pD c3)
            have h4 := hmo (pX c3)
            have h5 := hP c3
            exact ⟨c3, by omega, by omega⟩
          by_cases k10 : kd m = 10
          · have e := (ct_inv k10 (hc3 (by omega)) L).2.2.2.1 c3
            rw [if_pos rfl] at e
            have h1 := hmo (pG c3)
            have h2 := hmo (pF c3)
            have h3 := hmo (pD c3)
            have h5 := hP c3
            exact ⟨c3, by omega, by omega⟩
          · have k11 : kd m = 11 := by omega
            have e := (ct_pdn k11 (hc2 (by omega)) hj L).2.2.2.2.1
            have z : zN 16 (fun k => L.countP (pP c2 k)) + 1 ≤ zN 16 (fun k => (m :: L).countP (pP c2 k)) := zN_inc (fun k _ => hmo _) (show j < 16 by omega) (by rw [e, if_pos ⟨rfl, rfl⟩]; exact Nat.le_refl _)
            have h1 := hmo (pG c2)
            have h2 := hmo (pF c2)
            have h3 := hmo (pD c2)
            have h4 := hmo (pX c2)
            exact ⟨c2, by omega, by omega⟩
        have z := zN_inc (n := 4) (f := fun i => L.countP (pG i) + L.countP (pF i) + L.countP (pD i) + L.countP (pX i) + zN 16 (fun k => L.countP (pP i k))) (g := fun i => (m :: L).countP (pG i) + (m :: L).countP (pF i) + (m :: L).countP (pD i) + (m :: L).countP (pX i) + zN 16 (fun k => (m :: L).countP (pP i k))) (fun i _ => hA i) hc hcc
        omega
    rw [List.length_cons]
    omega
section PINV2
variable {R K S V W : Nat → Nat → Int} {O : Nat → List Nat} {H : Nat → Nat → Int} {L : List M7}
theorem InvC.len (h : InvC R K S V W O H L) : L.length ≤ 44 := by
  obtain ⟨a0, a1, a2, a3, a4, a5, a6, a7, a8, a9, b0, b1, b2⟩ := h
  have h1 := mTot_le a0
  have h2 : zN 16 (fun k => L.countP (pN k)) ≤ 16 * 1 := zN_le (fun k hk => by
    have q := a8 k hk
    have z : 0 ≤ s4 (fun i => bzA (R i 0) (L.countP (pG i)) k) := by
      have h0 := bz_pos (R 0 0) (L.countP (pG 0)) k
      have h1 := bz_pos (R 1 0) (L.countP (pG 1)) k
      have h2 := bz_pos (R 2 0) (L.countP (pG 2)) k
      have h3 := bz_pos (R 3 0) (L.countP (pG 3)) k
      show 0 ≤ bzA (R 0 0) (L.countP (pG 0)) k + bzA (R 1 0) (L.countP (pG 1)) k + bzA (R 2 0) (L.countP (pG 2)) k + bzA (R 3 0) (L.countP (pG 3)) k
      omega
    omega)
  have h3 : zN 4 (fun i => L.countP (pG i) + L.countP (pF i) + L.countP (pD i) + L.countP (pX i) + zN 16 (fun k => L.countP (pP i k))) ≤ 4 * 7 := zN_le (fun i hi => by
    have q := a1 i hi
    unfold rqA at q
    obtain ⟨k1, k2, k3⟩ := a4 i hi
    have e : zN 16 (fun k => L.countP (pP i k)) = zN 16 (fun k => if W i k = -1 then 0 else 1) := Nat.le_antisymm (zN_mono (fun k hk => Nat.le_of_eq (a3 i hi k hk).2.1)) (zN_mono (fun k hk => Nat.le_of_eq (a3 i hi k hk).2.1.symm))
    have e2 := zN_ind (n := 16) (p := fun k => W i k = -1)
    have e3 : zN 16 (fun k => if W i k = -1 then 0 else 1) = (List.range 16).countP (fun k => decide (¬ W i k = -1)) := e2
    have e4 : K i 8 = (((List.range 16).countP (fun k => decide (¬ W i k = -1)) : Nat) : Int) := k1
    omega)
  unfold mTot at h1
  omega
/-- how many messages wait in a queue at most -/
theorem InvC.qlen {j : Nat} {q L' : List M7} (h : InvC R K S V W O H L) (hj : j < 16) (hp : L.Perm (q ++ L')) (hq : ∀ m ∈ q, 1 ≤ kd m ∧ kd m ≤ 3 ∧ ln m = (j : Int)) : q.length ≤ 8 := by
  obtain ⟨a0, a1, a2, a3, a4, a5, a6, a7, a8, a9, b0, b1, b2⟩ := h
  have hsub : ∀ p : M7 → Bool, q.countP p ≤ L.countP p := fun p => by
    rw [hp.countP_eq, List.countP_append]
    omega
  have hw : ∀ m ∈ q, wfm m := fun m hm => a0 m (hp.mem_iff.mpr (List.mem_append_left _ hm))
  have key : ∀ l : List M7, (∀ m ∈ l, wfm m ∧ 1 ≤ kd m ∧ kd m ≤ 3 ∧ ln m = (j : Int)) → l.length ≤ zN 4 (fun i => l.countP (pG i) + l.countP (pP i j)) := by
    intro l
    induction l with
    | nil => exact fun _ => Nat.zero_le _
    | cons m l ih =>
      intro hl
      have q1 := ih (fun x hx => hl x (List.mem_cons_of_mem _ hx))
      obtain ⟨w, w1, w2, w3⟩ := hl m List.mem_cons_self
      unfold wfm at w
      obtain ⟨c, hc⟩ : ∃ c : Nat, fr m = (c : Int) := ⟨(fr m).toNat, by omega⟩
      have hmo : ∀ p : M7 → Bool, l.countP p ≤ (m :: l).countP p := fun p => by
        rw [List.countP_cons]
        omega
      have z := zN_inc (n := 4) (c := c) (f := fun i => l.countP (pG i) + l.countP (pP i j)) (g := fun i => (m :: l).countP (pG i) + (m :: l).countP (pP i j)) (fun i _ => Nat.add_le_add (hmo _) (hmo _)) (by omega) (by
        have h1 := hmo (pG c)
        have h2 := hmo (pP c j)
        by_cases k12 : kd m = 1 ∨ kd m = 2
        · have e := (ct_get k12 hc l).1 c
          rw [if_pos rfl] at e
          omega
        · have e := (ct_put (show kd m = 3 by omega) hc w3 l).2.2.2.2.1 c j
          rw [if_pos ⟨rfl, rfl⟩] at e
          omega)
      rw [List.length_cons]
      omega
  have k1 := key q (fun m hm => ⟨hw m hm, hq m hm⟩)
  have k2 : zN 4 (fun i => q.countP (pG i) + q.countP (pP i j)) ≤ 4 * 2 := zN_le (fun i hi => by
    have z1 := hsub (pG i)
    have z2 := hsub (pP i j)
    have z3 := a1 i hi
    have z4 := (a3 i hi j hj).2.1
    unfold rqA at z3
    by_cases hW : W i j = -1
    · rw [if_pos hW] at z4
      omega
    · rw [if_neg hW] at z4
      omega)
  omega
end PINV2
