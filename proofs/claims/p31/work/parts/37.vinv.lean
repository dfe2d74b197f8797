/-! ===== the values: what caches, memory and messages have of each line ===== -/
/-- cache i is in the set n -/
def bt (n : Int) (i : Nat) : Prop := n / (2 ^ i : Int) % 2 = 1
/-- a forward of line j for a writing is on the way to cache i -/
def fwM (L : List M7) (i j : Nat) : Prop := ∃ m ∈ L, kd m = 9 ∧ tt m = (i : Int) ∧ ln m = (j : Int)
/-- an invalidation of line j is on the way to cache i -/
def ivM (L : List M7) (i j : Nat) : Prop := ∃ m ∈ L, kd m = 10 ∧ tt m = (i : Int) ∧ ln m = (j : Int)
def no3 (S : Nat → Nat → Int) (j : Nat) : Prop := ∀ k, k < 4 → S k j ≠ 3
/-- N j: the latest value of line j that was written by a writing that is completed -/
def InvV (N : Nat → Int) (R S V W H : Nat → Nat → Int) (L : List M7) : Prop :=
  (∀ i : Nat, i < 4 → ∀ j : Nat, j < 16 → S i j ≠ 0 → V i j = N j) ∧
  (∀ i : Nat, i < 4 → ∀ k : Nat, k < 4 → ∀ j : Nat, j < 16 → i ≠ k → 2 ≤ S i j → S k j ≤ 1 ∧ (S i j = 3 → S k j = 0)) ∧
  (∀ j : Nat, j < 16 → H j 4 = -1 → H j 3 = N j) ∧
  (∀ i : Nat, i < 4 → ∀ j : Nat, j < 16 → H j 4 = (i : Int) → W i j ≠ -1 → W i j = N j) ∧
  (∀ m ∈ L, kd m = 3 → ∀ i : Nat, i < 4 → ∀ j : Nat, j < 16 → fr m = (i : Int) → ln m = (j : Int) → vl m = W i j) ∧
  (∀ m ∈ L, kd m = 5 → ∀ i : Nat, i < 4 → ∀ j : Nat, j < 16 → tt m = (i : Int) → ln m = (j : Int) → R i 1 = 0 → vl m = N j ∧ no3 S j) ∧
  (∀ i : Nat, i < 4 → ∀ j : Nat, j < 16 → R i 0 = (j : Int) → R i 1 = 0 → R i 3 = 1 → R i 4 = N j ∧ no3 S j) ∧
  (∀ m ∈ L, kd m = 8 → ∀ j : Nat, j < 16 → ln m = (j : Int) → H j 4 = tt m) ∧
  (∀ i : Nat, i < 4 → ∀ j : Nat, j < 16 → S i j ≠ 0 → H j 4 = (i : Int) ∨ bt (H j 5) i ∨ ivM L i j ∨ fwM L i j) ∧
  (∀ i : Nat, i < 4 → ∀ j : Nat, j < 16 → 2 ≤ S i j → H j 4 = (i : Int) ∨ fwM L i j) ∧
  (∀ i : Nat, i < 4 → ∀ j : Nat, j < 16 → R i 0 = (j : Int) → L.countP (pG i) = 0 → R i 1 = 1 → H j 4 = (i : Int) ∧ H j 5 = 0) ∧
  (∀ i : Nat, i < 4 → ∀ j : Nat, j < 16 → R i 0 = (j : Int) → L.countP (pG i) = 0 → R i 1 = 0 → bt (H j 5) i)
theorem fwM_c {m : M7} {L : List M7} {i j : Nat} : fwM (m :: L) i j ↔ (kd m = 9 ∧ tt m = (i : Int) ∧ ln m = (j : Int)) ∨ fwM L i j := by
  simp [fwM]
theorem ivM_c {m : M7} {L : List M7} {i j : Nat} : ivM (m :: L) i j ↔ (kd m = 10 ∧ tt m = (i : Int) ∧ ln m = (j : Int)) ∨ ivM L i j := by
  simp [ivM]
theorem fwM_cz {m : M7} {L : List M7} {i j : Nat} (h : kd m ≠ 9) : fwM (m :: L) i j ↔ fwM L i j := by
  rw [fwM_c]
  exact ⟨fun q => q.resolve_left (fun z => h z.1), Or.inr⟩
theorem ivM_cz {m : M7} {L : List M7} {i j : Nat} (h : kd m ≠ 10) : ivM (m :: L) i j ↔ ivM L i j := by
  rw [ivM_c]
  exact ⟨fun q => q.resolve_left (fun z => h z.1), Or.inr⟩
theorem fwM_r {A L : List M7} {i j : Nat} (h : fwM L i j) : fwM (A ++ L) i j := by
  obtain ⟨m, h1, h2⟩ := h
  exact ⟨m, List.mem_append_right _ h1, h2⟩
theorem ivM_r {A L : List M7} {i j : Nat} (h : ivM L i j) : ivM (A ++ L) i j := by
  obtain ⟨m, h1, h2⟩ := h
  exact ⟨m, List.mem_append_right _ h1, h2⟩
theorem ivM_l {A L : List M7} {i j : Nat} (h : ivM A i j) : ivM (A ++ L) i j := by
  obtain ⟨m, h1, h2⟩ := h
  exact ⟨m, List.mem_append_left _ h1, h2⟩
theorem bt0 {i : Nat} : ¬ bt 0 i := by
  unfold bt
  simp
section VINV
variable {R K S V W : Nat → Nat → Int} {O : Nat → List Nat} {H : Nat → Nat → Int} {N : Nat → Int} {L : List M7} {m o : M7} {c j d : Nat}
theorem InvV.perm {L' : List M7} (hp : L.Perm L') (h : InvV N R S V W H L) : InvV N R S V W H L' := by
  unfold InvV fwM ivM at h ⊢
  simp only [hp.countP_eq, hp.mem_iff] at h
  exact h
theorem InvV.eqH {H' : Nat → Nat → Int} (h : InvV N R S V W H L) (h3 : ∀ i, H' i 3 = H i 3) (h4 : ∀ i, H' i 4 = H i 4) (h5 : ∀ i, H' i 5 = H i 5) : InvV N R S V W H' L := by
  unfold InvV at h ⊢
  simp only [h3, h4, h5]
  exact h
/-- a processed request makes its line busy, and is the only one -/
theorem InvC.bz1 (h : InvC R K S V W O H L) (hj : j < 16) (hc : c < 4) (hr : R c 0 = (j : Int)) (hg : L.countP (pG c) = 0) : H j 6 = 1 ∧ ∀ d : Nat, d < 4 → R d 0 = (j : Int) → L.countP (pG d) = 0 → d = c := by
  have q := h.2.2.2.2.2.2.2.2.1 j hj
  have z : ∀ i : Nat, R i 0 = (j : Int) → L.countP (pG i) = 0 → bzA (R i 0) (L.countP (pG i)) j = 1 := fun i h1 h2 => by
    unfold bzA
    rw [if_pos ⟨h1, h2⟩]
  have e1 : bzA (R c 0) (L.countP (pG c)) j ≤ s4 (fun i => bzA (R i 0) (L.countP (pG i)) j) := s4_le (f := fun i => bzA (R i 0) (L.countP (pG i)) j) hc (fun k _ => bz_pos _ _ _)
  have z1 := z c hr hg
  refine ⟨by omega, fun d hd h1 h2 => ?_⟩
  by_cases e : d = c
  · exact e
  · have e2 : bzA (R d 0) (L.countP (pG d)) j + bzA (R c 0) (L.countP (pG c)) j ≤ s4 (fun i => bzA (R i 0) (L.countP (pG i)) j) := s4_le2 (f := fun i => bzA (R i 0) (L.countP (pG i)) j) hd hc e (fun k _ => bz_pos _ _ _)
    have z2 := z d h1 h2
    omega
/-- an invalidation belongs to a processed request -/
theorem InvC.inv (h : InvC R K S V W O H L) (hj : j < 16) (hm : m ∈ L) (hk : kd m = 10) (hl : ln m = (j : Int)) : ∃ i : Nat, i < 4 ∧ rq m = (i : Int) ∧ R i 0 = (j : Int) ∧ L.countP (pG i) = 0 ∧ 0 < L.countP (pX i) := by
  have w := h.1 m hm
  unfold wfm at w
  obtain ⟨i, hi⟩ : ∃ i : Nat, rq m = (i : Int) := ⟨(rq m).toNat, by omega⟩
  have hi4 : i < 4 := by omega
  have hX : 0 < L.countP (pX i) := cnt_yes hm (by simp [pX, hk, hi])
  have q1 := h.2.1 i hi4
  have q2 := (h.2.2.1 i hi4 m hm).2.2.2.1 hk hi
  unfold rqA at q1
  exact ⟨i, hi4, hi, by omega, by omega, hX⟩
/-- an answer belongs to a processed request -/
theorem InvC.dat (h : InvC R K S V W O H L) (hc : c < 4) (hm : m ∈ L) (hk : kd m = 5 ∨ kd m = 6) (ht : tt m = (c : Int)) (hl : ln m = (j : Int)) : R c 0 = (j : Int) ∧ L.countP (pG c) = 0 := by
  have hD : 0 < L.countP (pD c) := cnt_yes hm (by simp [pD, hk, ht])
  have q1 := h.2.1 c hc
  have q2 := (h.2.2.1 c hc m hm).2.2.1 hk ht
  unfold rqA at q1
  omega
/-- a line that is not busy -/
theorem InvC.nob (h : InvC R K S V W O H L) (hj : j < 16) (hb : H j 6 = 0) : (∀ i : Nat, i < 4 → R i 0 = (j : Int) → L.countP (pG i) ≠ 0) ∧ ∀ x ∈ L, (kd x = 8 ∨ kd x = 9 ∨ kd x = 10) → ln x ≠ (j : Int) := by
  refine ⟨fun i hi hr hg => ?_, fun x hx hk hl => ?_⟩
  · have := (h.bz1 hj hi hr hg).1
    omega
  · rcases hk with hk | hk | hk
    · obtain ⟨i, h1, h2, h3, h4, h5, h6, h7⟩ := h.fwd hj hx (Or.inl hk) hl
      omega
    · obtain ⟨i, h1, h2, h3, h4, h5, h6, h7⟩ := h.fwd hj hx (Or.inr hk) hl
      omega
    · obtain ⟨i, h1, h2, h3, h4, h5⟩ := h.inv hj hx hk hl
      have := (h.bz1 hj h1 h3 h4).1
      omega
theorem InvC.vic (h : InvC R K S V W O H L) (hc : c < 4) (hj : j < 16) (hw : W c j ≠ -1) : S c j = 0 ∧ R c 0 ≠ (j : Int) := (h.2.2.2.1 c hc j hj).2.2 hw
/-- who has a line as owner: the home knows it, or has just sent the forward -/
theorem InvV.nofw (hC : InvC R K S V W O H L) (hj : j < 16) (hb : H j 6 = 0) {i : Nat} : ¬ fwM L i j := fun ⟨x, h1, h2, _, h4⟩ => (hC.nob hj hb).2 x h1 (Or.inr (Or.inl h2)) h4
theorem InvV.noiv (hC : InvC R K S V W O H L) (hj : j < 16) (hb : H j 6 = 0) {i : Nat} : ¬ ivM L i j := fun ⟨x, h1, h2, _, h4⟩ => (hC.nob hj hb).2 x h1 (Or.inr (Or.inr h2)) h4
set_option maxHeartbeats 1000000 in
/-- GET_SHARED is processed -/
theorem V_getS (hj : j < 16) (hC : InvC R K S V W O H (m :: L)) (hV : InvV N R S V W H (m :: L)) (hc : c < 4) (hm : kd m = 1) (hf : fr m = (c : Int)) (hl : ln m = (j : Int)) (hb : H j 6 = 0)
    (ho : (kd o = 5 ∧ H j 4 = -1 ∧ tt o = (c : Int) ∧ vl o = H j 3) ∨ (kd o = 8 ∧ tt o = H j 4)) (hol : ln o = (j : Int)) (sh : Int) (hs : ∀ i : Nat, i < 4 → (bt sh i ↔ i = c ∨ bt (H j 5) i)) : InvV N R S V W (w2 (w2 H j 5 sh) j 6 1) (o :: L) := by
  have nb := hC.nob hj hb
  have nf : ∀ i : Nat, ¬ fwM (m :: L) i j := fun i => InvV.nofw hC hj hb
  have lk := (hC.2.2.1 c hc m List.mem_cons_self).1 (Or.inl hm) hf
  have h3 : ∀ k, (w2 (w2 H j 5 sh) j 6 1) k 3 = H k 3 := fun k => by simp [w2]
  have h4 : ∀ k, (w2 (w2 H j 5 sh) j 6 1) k 4 = H k 4 := fun k => by simp [w2]
  have h5 : ∀ k, (w2 (w2 H j 5 sh) j 6 1) k 5 = if k = j then sh else H k 5 := fun k => by simp [w2]
  have g1 := (ct_get (Or.inl hm) hf L).1
  have g2 : ∀ i : Nat, (o :: L).countP (pG i) = L.countP (pG i) := fun i => cnt_z (by rcases ho with h | h <;> simp [pG, h.1])
  obtain ⟨v1, v2, v3, v4, v5, v6, v7, v8, v9, va, vb, vc⟩ := hV
  simp only [List.forall_mem_cons, fwM_cz (show kd m ≠ 9 by omega), ivM_cz (show kd m ≠ 10 by omega), g1] at v5 v6 v8 v9 va vb vc nb nf
  have o9 : kd o ≠ 9 := by omega
  have o10 : kd o ≠ 10 := by omega
  unfold InvV
  simp only [List.forall_mem_cons, fwM_cz o9, ivM_cz o10, g2, h3, h4, h5]
  refine ⟨v1, v2, v3, v4, ⟨fun q => by omega, v5.2⟩, ⟨fun q i hi k hk ht hk2 hr => ?_, v6.2⟩, v7, ⟨fun q k hk hk2 => ?_, v8.2⟩, fun i hi k hk hS => ?_, va, fun i hi k hk hr hg hw => ?_, fun i hi k hk hr hg hw => ?_⟩
  · have hkj : k = j := by omega
    subst hkj
    rcases ho with ⟨_, q2, q3, q4⟩ | ⟨q1, _⟩
    · refine ⟨q4.trans (v3 k hk q2), fun n hn h9 => ?_⟩
      rcases va n hn k hk (by omega) with z | z
      · omega
      · exact nf n z
    · omega
  · have hkj : k = j := by omega
    subst hkj
    rcases ho with ⟨q1, _⟩ | ⟨_, q1⟩
    · omega
    · exact q1.symm
  · rcases v9 i hi k hk hS with z | z | z
    · exact Or.inl z
    · refine Or.inr (Or.inl ?_)
      by_cases e : k = j
      · rw [if_pos e]
        subst e
        exact (hs i hi).mpr (Or.inr z)
      · rw [if_neg e]
        exact z
    · exact Or.inr (Or.inr z)
  · by_cases e : k = j
    · subst e
      by_cases e2 : i = c
      · subst e2
        omega
      · exact (nb.1 i hi hr (by rw [if_neg e2]; exact hg)).elim
    · rw [if_neg e]
      by_cases e2 : i = c
      · subst e2
        omega
      · exact vb i hi k hk hr (by rw [if_neg e2]; exact hg) hw
  · by_cases e2 : i = c
    · subst e2
      have e : k = j := by omega
      rw [if_pos e]
      exact (hs i hi).mpr (Or.inl rfl)
    · by_cases e : k = j
      · subst e
        exact (nb.1 i hi hr (by rw [if_neg e2]; exact hg)).elim
      · rw [if_neg e]
        exact vc i hi k hk hr (by rw [if_neg e2]; exact hg) hw
set_option maxHeartbeats 1000000 in
/-- GET_MODIFIED is processed -/
theorem V_getM (hj : j < 16) (hC : InvC R K S V W O H (m :: L)) (hV : InvV N R S V W H (m :: L)) (hc : c < 4) (hm : kd m = 2) (hf : fr m = (c : Int)) (hl : ln m = (j : Int)) (hb : H j 6 = 0) {ivs : List M7} (hiv : ∀ x ∈ ivs, kd x = 10 ∧ rq x = (c : Int))
    (hiw : ∀ i : Nat, i < 4 → i ≠ c → H j 4 ≠ (i : Int) → bt (H j 5) i → ivM ivs i j) (ho : kd o = 5 ∨ kd o = 6 ∨ kd o = 9) (hot : (kd o = 5 ∨ kd o = 6) → tt o = (c : Int)) (hol : ln o = (j : Int)) (hof : ∀ i : Nat, i < 4 → i ≠ c → H j 4 = (i : Int) → kd o = 9 ∧ tt o = (i : Int)) : InvV N R S V W (w2 (w2 (w2 H j 4 (c : Int)) j 5 0) j 6 1) (o :: (ivs ++ L)) := by
  have nb := hC.nob hj hb
  have nf : ∀ i : Nat, ¬ fwM (m :: L) i j := fun i => InvV.nofw hC hj hb
  have lk := (hC.2.2.1 c hc m List.mem_cons_self).1 (Or.inr hm) hf
  have vi : W c j ≠ -1 → False := fun q => (hC.vic hc hj q).2 (by omega)
  have h3 : ∀ k, (w2 (w2 (w2 H j 4 (c : Int)) j 5 0) j 6 1) k 3 = H k 3 := fun k => by simp [w2]
  have h4 : ∀ k, (w2 (w2 (w2 H j 4 (c : Int)) j 5 0) j 6 1) k 4 = if k = j then (c : Int) else H k 4 := fun k => by simp [w2]
  have h5 : ∀ k, (w2 (w2 (w2 H j 4 (c : Int)) j 5 0) j 6 1) k 5 = if k = j then 0 else H k 5 := fun k => by simp [w2]
  have g1 := (ct_get (Or.inr hm) hf L).1
  have g2 : ∀ i : Nat, (o :: (ivs ++ L)).countP (pG i) = L.countP (pG i) := fun i => by rw [cnt_z (by rcases ho with h | h | h <;> simp [pG, h]), (ct_invs hiv L).1]
  obtain ⟨v1, v2, v3, v4, v5, v6, v7, v8, v9, va, vb, vc⟩ := hV
  simp only [List.forall_mem_cons, fwM_cz (show kd m ≠ 9 by omega), ivM_cz (show kd m ≠ 10 by omega), g1] at v5 v6 v8 v9 va vb vc nb nf
  unfold InvV
  simp only [List.forall_mem_cons, List.forall_mem_append, g2, h3, h4, h5]
  refine ⟨v1, v2, fun k hk q => ?_, fun i hi k hk q hw => ?_, ⟨fun q => by omega, fun x hx q => by have := (hiv x hx).1; omega, v5.2⟩, ⟨fun q i hi k hk ht hk2 hr => ?_, fun x hx q => by have := (hiv x hx).1; omega, v6.2⟩, v7, ⟨fun q => by omega, fun x hx q => by have := (hiv x hx).1; omega, fun x hx q k hk hlx => ?_⟩, fun i hi k hk hS => ?_, fun i hi k hk hS => ?_, fun i hi k hk hr hg hw => ?_, fun i hi k hk hr hg hw => ?_⟩
  · by_cases e : k = j
    · rw [if_pos e] at q
      omega
    · rw [if_neg e] at q
      exact v3 k hk q
  · by_cases e : k = j
    · rw [if_pos e] at q
      subst e
      have : i = c := by omega
      subst this
      exact (vi hw).elim
    · rw [if_neg e] at q
      exact v4 i hi k hk q hw
  · have := hot (Or.inl q)
    have : i = c := by omega
    subst this
    omega
  · by_cases e : k = j
    · subst e
      exact (nb.2.2 x hx (Or.inl q) hlx).elim
    · rw [if_neg e]
      exact v8.2 x hx q k hk hlx
  · by_cases e : k = j
    · subst e
      rw [if_pos rfl]
      by_cases e2 : i = c
      · exact Or.inl (by omega)
      · rcases v9 i hi k hk hS with z | z | z | z
        · have := hof i hi e2 z
          exact Or.inr (Or.inr (Or.inr (fwM_c.mpr (Or.inl ⟨this.1, this.2, hol⟩))))
        · by_cases e3 : H k 4 = (i : Int)
          · have := hof i hi e2 e3
            exact Or.inr (Or.inr (Or.inr (fwM_c.mpr (Or.inl ⟨this.1, this.2, hol⟩))))
          · exact Or.inr (Or.inr (Or.inl (ivM_c.mpr (Or.inr (ivM_l (hiw i hi e2 e3 z))))))
        · exact Or.inr (Or.inr (Or.inl (ivM_c.mpr (Or.inr (ivM_r z)))))
        · exact (nf i z).elim
    · rw [if_neg e, if_neg e]
      rcases v9 i hi k hk hS with z | z | z | z
      · exact Or.inl z
      · exact Or.inr (Or.inl z)
      · exact Or.inr (Or.inr (Or.inl (ivM_c.mpr (Or.inr (ivM_r z)))))
      · exact Or.inr (Or.inr (Or.inr (fwM_c.mpr (Or.inr (fwM_r z)))))
  · by_cases e : k = j
    · subst e
      rw [if_pos rfl]
      by_cases e2 : i = c
      · exact Or.inl (by omega)
      · rcases va i hi k hk hS with z | z
        · have := hof i hi e2 z
          exact Or.inr (fwM_c.mpr (Or.inl ⟨this.1, this.2, hol⟩))
        · exact (nf i z).elim
    · rw [if_neg e]
      rcases va i hi k hk hS with z | z
      · exact Or.inl z
      · exact Or.inr (fwM_c.mpr (Or.inr (fwM_r z)))
  · by_cases e2 : i = c
    · subst e2
      have e : k = j := by omega
      rw [if_pos e, if_pos e]
      exact ⟨rfl, rfl⟩
    · by_cases e : k = j
      · subst e
        exact (nb.1 i hi hr (by rw [if_neg e2]; exact hg)).elim
      · rw [if_neg e, if_neg e]
        exact vb i hi k hk hr (by rw [if_neg e2]; exact hg) hw
  · by_cases e2 : i = c
    · subst e2
      omega
    · by_cases e : k = j
      · subst e
        exact (nb.1 i hi hr (by rw [if_neg e2]; exact hg)).elim
      · rw [if_neg e]
        exact vc i hi k hk hr (by rw [if_neg e2]; exact hg) hw
set_option maxHeartbeats 1000000 in
/-- PUT of the owner -/
theorem V_put1 (hj : j < 16) (hC : InvC R K S V W O H (m :: L)) (hV : InvV N R S V W H (m :: L)) (hc : c < 4) (hm : kd m = 3) (hf : fr m = (c : Int)) (hl : ln m = (j : Int)) (hb : H j 6 = 0) (how : H j 4 = (c : Int)) (sh : Int) (hs : ∀ i : Nat, i < 4 → (bt sh i ↔ i ≠ c ∧ bt (H j 5) i))
    (ho : kd o = 11) : InvV N R S V W (w2 (w2 (w2 H j 3 (vl m)) j 4 (-1)) j 5 sh) (o :: L) := by
  have nb := hC.nob hj hb
  have nf : ∀ i : Nat, ¬ fwM (m :: L) i j := fun i => InvV.nofw hC hj hb
  have hP : 0 < (m :: L).countP (pP c j) := cnt_yes List.mem_cons_self (by simp [pP, hm, hf, hl])
  have hw : W c j ≠ -1 := fun q => by
    have := (hC.2.2.2.1 c hc j hj).2.1
    rw [if_pos q] at this
    omega
  have vs := (hC.vic hc hj hw).1
  have h3 : ∀ k, (w2 (w2 (w2 H j 3 (vl m)) j 4 (-1)) j 5 sh) k 3 = if k = j then vl m else H k 3 := fun k => by simp [w2]
  have h4 : ∀ k, (w2 (w2 (w2 H j 3 (vl m)) j 4 (-1)) j 5 sh) k 4 = if k = j then -1 else H k 4 := fun k => by simp [w2]
  have h5 : ∀ k, (w2 (w2 (w2 H j 3 (vl m)) j 4 (-1)) j 5 sh) k 5 = if k = j then sh else H k 5 := fun k => by simp [w2]
  have g1 := (ct_put hm hf hl L).1
  have g2 : ∀ i : Nat, (o :: L).countP (pG i) = L.countP (pG i) := fun i => cnt_z (by simp [pG, ho])
  obtain ⟨v1, v2, v3, v4, v5, v6, v7, v8, v9, va, vb, vc⟩ := hV
  simp only [List.forall_mem_cons, fwM_cz (show kd m ≠ 9 by omega), ivM_cz (show kd m ≠ 10 by omega), g1] at v5 v6 v8 v9 va vb vc nb nf
  unfold InvV
  simp only [List.forall_mem_cons, fwM_cz (show kd o ≠ 9 by omega), ivM_cz (show kd o ≠ 10 by omega), g2, h3, h4, h5]
  refine ⟨v1, v2, fun k hk q => ?_, fun i hi k hk q hw2 => ?_, ⟨fun q => by omega, v5.2⟩, ⟨fun q => by omega, v6.2⟩, v7, ⟨fun q => by omega, fun x hx q k hk hlx => ?_⟩, fun i hi k hk hS => ?_, fun i hi k hk hS => ?_, fun i hi k hk hr hg hw => ?_, fun i hi k hk hr hg hw => ?_⟩
  · by_cases e : k = j
    · subst e
      rw [if_pos rfl]
      exact (v5.1 hm c hc k hk hf hl).trans (v4 c hc k hk how hw)
    · rw [if_neg e] at q ⊢
      exact v3 k hk q
  · by_cases e : k = j
    · rw [if_pos e] at q
      omega
    · rw [if_neg e] at q
      exact v4 i hi k hk q hw2
  · by_cases e : k = j
    · subst e
      exact (nb.2.2 x hx (Or.inl q) hlx).elim
    · rw [if_neg e]
      exact v8.2 x hx q k hk hlx
  · by_cases e : k = j
    · subst e
      rw [if_pos rfl, if_pos rfl]
      have hic : i ≠ c := fun e => hS (by rw [e]; exact vs)
      rcases v9 i hi k hk hS with z | z | z
      · omega
      · exact Or.inr (Or.inl ((hs i hi).mpr ⟨hic, z⟩))
      · exact Or.inr (Or.inr z)
    · rw [if_neg e, if_neg e]
      exact v9 i hi k hk hS
  · by_cases e : k = j
    · subst e
      have hic : i ≠ c := fun e => by
        rw [e, vs] at hS
        omega
      rcases va i hi k hk hS with z | z
      · omega
      · exact (nf i z).elim
    · rw [if_neg e]
      exact va i hi k hk hS
  · by_cases e : k = j
    · subst e
      exact (nb.1 i hi hr hg).elim
    · rw [if_neg e, if_neg e]
      exact vb i hi k hk hr hg hw
  · by_cases e : k = j
    · subst e
      exact (nb.1 i hi hr hg).elim
    · rw [if_neg e]
      exact vc i hi k hk hr hg hw
/-- a message that says nothing of values goes, or comes -/
theorem V_less (hm : kd m = 3 ∨ kd m = 4 ∨ kd m = 6 ∨ kd m = 7 ∨ kd m = 11) (hV : InvV N R S V W H (m :: L)) : InvV N R S V W H L := by
  have g1 : ∀ i : Nat, (m :: L).countP (pG i) = L.countP (pG i) := fun i => cnt_z (by rcases hm with h | h | h | h | h <;> simp [pG, h])
  unfold InvV at hV ⊢
  simp only [List.forall_mem_cons, fwM_cz (show kd m ≠ 9 by omega), ivM_cz (show kd m ≠ 10 by omega), g1] at hV
  obtain ⟨v1, v2, v3, v4, v5, v6, v7, v8, v9, va, vb, vc⟩ := hV
  exact ⟨v1, v2, v3, v4, v5.2, v6.2, v7, v8.2, v9, va, vb, vc⟩
theorem V_more (hm : kd o = 4 ∨ kd o = 6 ∨ kd o = 7 ∨ kd o = 11) (hV : InvV N R S V W H L) : InvV N R S V W H (o :: L) := by
  have g1 : ∀ i : Nat, (o :: L).countP (pG i) = L.countP (pG i) := fun i => cnt_z (by rcases hm with h | h | h | h <;> simp [pG, h])
  unfold InvV at hV ⊢
  simp only [List.forall_mem_cons, fwM_cz (show kd o ≠ 9 by omega), ivM_cz (show kd o ≠ 10 by omega), g1]
  obtain ⟨v1, v2, v3, v4, v5, v6, v7, v8, v9, va, vb, vc⟩ := hV
  exact ⟨v1, v2, v3, v4, ⟨fun q => by omega, v5⟩, ⟨fun q => by omega, v6⟩, v7, ⟨fun q => by omega, v8⟩, v9, va, vb, vc⟩
/-- an answer reaches its cache -/
theorem V_ans (hc : c < 4) (hj : j < 16) (hC : InvC R K S V W O H (m :: L)) (hV : InvV N R S V W H (m :: L)) (hm : kd m = 5 ∨ kd m = 6) (ht : tt m = (c : Int)) (hl : ln m = (j : Int)) : InvV N (w2 (w2 (w2 R c 3 1) c 4 (vl m)) c 5 (cn m)) S V W H L := by
  obtain ⟨d1, d2⟩ := hC.dat hc List.mem_cons_self hm ht hl
  have lk := (hC.2.2.1 c hc m List.mem_cons_self).2.2.1 hm ht
  have r0 : ∀ k, (w2 (w2 (w2 R c 3 1) c 4 (vl m)) c 5 (cn m)) k 0 = R k 0 := fun k => by simp [w2]
  have r1 : ∀ k, (w2 (w2 (w2 R c 3 1) c 4 (vl m)) c 5 (cn m)) k 1 = R k 1 := fun k => by simp [w2]
  have r3 : ∀ k, (w2 (w2 (w2 R c 3 1) c 4 (vl m)) c 5 (cn m)) k 3 = if k = c then 1 else R k 3 := fun k => by simp [w2]
  have r4 : ∀ k, (w2 (w2 (w2 R c 3 1) c 4 (vl m)) c 5 (cn m)) k 4 = if k = c then vl m else R k 4 := fun k => by simp [w2]
  have g1 : ∀ i : Nat, (m :: L).countP (pG i) = L.countP (pG i) := fun i => cnt_z (by rcases hm with h | h <;> simp [pG, h])
  obtain ⟨v1, v2, v3, v4, v5, v6, v7, v8, v9, va, vb, vc⟩ := hV
  simp only [List.forall_mem_cons, fwM_cz (show kd m ≠ 9 by omega), ivM_cz (show kd m ≠ 10 by omega), g1] at v5 v6 v8 v9 va vb vc
  unfold InvV
  simp only [r0, r1, r3, r4]
  refine ⟨v1, v2, v3, v4, v5.2, v6.2, fun i hi k hk q0 q1 q3 => ?_, v8.2, v9, va, vb, vc⟩
  by_cases e : i = c
  · subst e
    rw [if_pos rfl]
    have : k = j := by omega
    subst this
    rcases hm with hm | hm
    · exact v6.1 hm i hi k hk ht hl q1
    · have := lk.2.2 hm
      omega
  · rw [if_neg e] at q3 ⊢
    exact v7 i hi k hk q0 q1 q3
theorem V_ack (hV : InvV N R S V W H (m :: L)) (hm : kd m = 7) {z : Int} : InvV N (w2 R c 6 z) S V W H L := by
  have h := V_less (Or.inr (Or.inr (Or.inr (Or.inl hm)))) hV
  have r : ∀ k n, n ≠ 6 → w2 R c 6 z k n = R k n := fun k n hn => by simp [w2, hn]
  unfold InvV at h ⊢
  simp only [r _ 0 (by decide), r _ 1 (by decide), r _ 3 (by decide), r _ 4 (by decide)]
  exact h
/-- a line leaves a cache -/
theorem V_drop (hV : InvV N R S V W H L) : InvV N R (w2 S c j 0) (w2 V c j (-1)) W H L := by
  obtain ⟨v1, v2, v3, v4, v5, v6, v7, v8, v9, va, vb, vc⟩ := hV
  have hs : ∀ i k, w2 S c j 0 i k = 0 ∨ (w2 S c j 0 i k = S i k ∧ w2 V c j (-1) i k = V i k) := fun i k => by
    unfold w2
    by_cases e : i = c ∧ k = j
    · rw [if_pos e]
      exact Or.inl rfl
    · rw [if_neg e, if_neg e]
      exact Or.inr ⟨rfl, rfl⟩
  have hn : ∀ k, no3 S k → no3 (w2 S c j 0) k := fun k h n hn q => by
    rcases hs n k with z | z
    · omega
    · exact h n hn (by omega)
  refine ⟨fun i hi k hk q => ?_, fun i hi n hn' k hk e q => ?_, v3, v4, v5, fun x hx h5 i hi k hk q1 q2 q3 => ?_, fun i hi k hk q0 q1 q3 => ?_, v8, fun i hi k hk q => ?_, fun i hi k hk q => ?_, vb, vc⟩
  · rcases hs i k with z | z
    · exact (q z).elim
    · rw [z.2]
      exact v1 i hi k hk (by rw [← z.1]; exact q)
  · rcases hs i k with z | z
    · omega
    · have := v2 i hi n hn' k hk e (by omega)
      rcases hs n k with z2 | z2
      · omega
      · omega
  · have := v6 x hx h5 i hi k hk q1 q2 q3
    exact ⟨this.1, hn k this.2⟩
  · have := v7 i hi k hk q0 q1 q3
    exact ⟨this.1, hn k this.2⟩
  · rcases hs i k with z | z
    · exact (q z).elim
    · exact v9 i hi k hk (by rw [← z.1]; exact q)
  · rcases hs i k with z | z
    · omega
    · exact va i hi k hk (by omega)
end VINV
