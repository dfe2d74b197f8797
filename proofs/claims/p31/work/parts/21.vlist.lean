/-! ===== the lists over the view ===== -/
theorem Lp_nil {L : Nat → List Nat} : Lp L [] = L := by
  funext j
  unfold Lp
  by_cases h : j = 16
  · subst h
    simp [va_up]
  · simp [va_up, h]
theorem WFL.add {x y : St} {L : Nat → List Nat} {j a : Nat} (h : WFL x L) (hj : j < 17) (hA : AddP x y j (L j).length a) (hn : (L j).length ≤ 63) (ha : a ∈ x.PL) (hka : x.PK a = true) (hno : ∀ k, k < 17 → a ∉ L k) : WFL y (va_up L j (L j ++ [a])) := by
  obtain ⟨hA1, hA2, hA3, hA4⟩ := h
  obtain ⟨-, p1, p2, p3, p4, b, b1, b2, b3, b4, b5, b6, b7, b8, b9⟩ := hA
  have hfresh : ∀ k c, k < 17 → k ≠ j → x.LD k = some c → c ≠ b := by
    intro k c hk hkj hc e
    subst e
    rcases b9 with h9 | h9
    · exact hkj (hA2 k j c hk hj hc h9)
    · obtain ⟨-, -, h0 | ⟨a0, h0, h00, -⟩⟩ := hA1 k hk
      · rw [h0.1] at hc
        cases hc
      · rw [h0] at hc
        cases hc
        exact h9 h00
  refine ⟨fun k hk => ?_, fun k i c hk hi h1 h2 => ?_, fun k c hk hc => ?_, fun k i p q c hk hi h1 h2 => ?_⟩
  · by_cases hkj : k = j
    · subst hkj
      rw [va_up_self]
      refine ⟨by rw [p3, List.length_append]; rfl, by rw [List.length_append]; simp; omega, Or.inr ⟨b, b1, b2, b3, b4, b5, by rw [List.length_append]; simpa using b6, fun t c hc => ?_⟩⟩
      by_cases ht : t < (L k).length
      · rw [List.getElem?_append_left ht] at hc
        obtain ⟨-, -, h0 | ⟨a0, h0, -, -, -, -, -, h00⟩⟩ := hA1 k hk
        · rw [h0.2] at ht
          exact absurd ht (Nat.not_lt_zero _)
        · rw [b7 a0 h0 t ht]
          exact h00 t c hc
      · have htl := (List.getElem?_eq_some_iff.mp hc).1
        rw [List.length_append] at htl
        simp only [List.length_cons, List.length_nil] at htl
        have e : t = (L k).length := by omega
        subst e
        rw [List.getElem?_append_right (Nat.le_refl _)] at hc
        simp only [Nat.sub_self, List.getElem?_cons_zero, Option.some.injEq] at hc
        rw [b8, hc]
    · rw [va_up_ne _ _ hkj, (p2 k hkj).1, (p2 k hkj).2]
      obtain ⟨g1, g2, g3⟩ := hA1 k hk
      refine ⟨g1, g2, ?_⟩
      rcases g3 with g3 | ⟨a0, q1, q2, q3, q4, q5, q6, q7⟩
      · exact Or.inl g3
      · have hne : x.LD j ≠ some a0 := fun e => hkj (hA2 k j a0 hk hj q1 e)
        obtain ⟨r1, r2⟩ := p4 a0 q2 hne
        exact Or.inr ⟨a0, q1, (p1 a0 q2).1, (p1 a0 q2).2.1.trans q3, by rw [r1]; exact q4, by rw [r1]; exact q5, by rw [r1]; exact q6, by rw [r2]; exact q7⟩
  · by_cases hkj : k = j
    · by_cases hij : i = j
      · rw [hkj, hij]
      · subst hkj
        rw [b1] at h1
        cases h1
        rw [(p2 i hij).2] at h2
        exact absurd rfl (hfresh i b hi hij h2)
    · by_cases hij : i = j
      · subst hij
        rw [b1] at h2
        cases h2
        rw [(p2 k hkj).2] at h1
        exact absurd rfl (hfresh k b hk hkj h1)
      · rw [(p2 k hkj).2] at h1
        rw [(p2 i hij).2] at h2
        exact hA2 k i c hk hi h1 h2
  · have hh : c ∈ x.PL ∧ x.PK c = true := by
      by_cases hkj : k = j
      · subst hkj
        rw [va_up_self] at hc
        rcases List.mem_append.mp hc with hc | hc
        · exact hA3 k c hk hc
        · rw [List.mem_singleton.mp hc]
          exact ⟨ha, hka⟩
      · rw [va_up_ne _ _ hkj] at hc
        exact hA3 k c hk hc
    exact ⟨(p1 c hh.1).1, (p1 c hh.1).2.1.trans hh.2⟩
  · have key : ∀ k p, k < 17 → (va_up L j (L j ++ [a]) k)[p]? = some c → ((L k)[p]? = some c ∧ c ≠ a) ∨ (c = a ∧ k = j ∧ p = (L j).length) := by
      intro k p hk hp
      by_cases hkj : k = j
      · subst hkj
        rw [va_up_self] at hp
        by_cases hpl : p < (L k).length
        · rw [List.getElem?_append_left hpl] at hp
          exact Or.inl ⟨hp, fun e => hno k hk (e ▸ List.mem_of_getElem? hp)⟩
        · have htl := (List.getElem?_eq_some_iff.mp hp).1
          rw [List.length_append] at htl
          simp only [List.length_cons, List.length_nil] at htl
          have e : p = (L k).length := by omega
          subst e
          rw [List.getElem?_append_right (Nat.le_refl _)] at hp
          simp only [Nat.sub_self, List.getElem?_cons_zero, Option.some.injEq] at hp
          exact Or.inr ⟨hp.symm, rfl, rfl⟩
      · rw [va_up_ne _ _ hkj] at hp
        exact Or.inl ⟨hp, fun e => hno k hk (e ▸ List.mem_of_getElem? hp)⟩
    rcases key k p hk h1 with ⟨g1, g2⟩ | ⟨g1, g2, g3⟩ <;> rcases key i q hi h2 with ⟨f1, f2⟩ | ⟨f1, f2, f3⟩
    · exact hA4 k i p q c hk hi g1 f1
    · exact absurd f1 g2
    · exact absurd g1 f2
    · exact ⟨g2.trans f2.symm, g3.trans f3.symm⟩
/-- what taking out at place k of list j (of n elements) does -/
def RemP (x y : St) (j k n b : Nat) : Prop := ∃ (w : Int32) (g : Nat → Option Nat), (∀ t, t < n - 1 → g t = if t < k then x.BR b t else x.BR b (t + 1)) ∧ y = ((x.setFL j 0 w).setFL j 2 (nI (n - 1))).setBR b g
theorem RemP.acc {x y : St} {j k n b : Nat} (h : RemP x y j k n b) : er y = er x ∧ y.PL = x.PL ∧ y.PK = x.PK ∧ y.MF = x.MF ∧ y.BN = x.BN ∧ y.LD = x.LD ∧ (∀ i, i ≠ j → y.FL i = x.FL i) ∧ y.FL j 2 = nI (n - 1) ∧ (∀ c, c ≠ b → y.BR c = x.BR c) ∧ ∀ t, t < n - 1 → y.BR b t = if t < k then x.BR b t else x.BR b (t + 1) := by
  obtain ⟨w, g, hg, rfl⟩ := h
  refine ⟨by rw [er_setBR, er_setFL, er_setFL], ?_, ?_, ?_, ?_, ?_, fun i hi => ?_, ?_, fun c hc => ?_, fun t ht => ?_⟩ <;> simp only [St.acc, u2, va_up_self]
  · rw [va_up_ne _ _ hi, va_up_ne _ _ hi]
  · exact va_up_ne _ _ hc
  · exact hg t ht
theorem er_idx {α : Type} {l : List α} {k t : Nat} {c : α} (h : (l.eraseIdx k)[t]? = some c) : l[if t < k then t else t + 1]? = some c := by
  rw [List.getElem?_eraseIdx] at h
  by_cases ht : t < k
  · rw [if_pos ht] at h ⊢
    exact h
  · rw [if_neg ht] at h ⊢
    exact h
theorem WFL.rem {x y : St} {L : Nat → List Nat} {j k b : Nat} (h : WFL x L) (hj : j < 17) (hk : k < (L j).length) (hD : x.LD j = some b) (hR : RemP x y j k (L j).length b) : WFL y (va_up L j ((L j).eraseIdx k)) := by
  obtain ⟨hA1, hA2, hA3, hA4⟩ := h
  obtain ⟨-, r1, r2, r3, r4, r5, r6, r7, r8, r9⟩ := hR.acc
  have hlen : ((L j).eraseIdx k).length = (L j).length - 1 := List.length_eraseIdx_of_lt hk
  refine ⟨fun i hi => ?_, fun i m c hi hm h1 h2 => ?_, fun i c hi hc => ?_, fun i m p q c hi hm h1 h2 => ?_⟩
  · by_cases hij : i = j
    · subst hij
      rw [va_up_self, hlen]
      obtain ⟨-, g2, g3⟩ := hA1 i hi
      refine ⟨r7, by omega, ?_⟩
      rcases g3 with g3 | ⟨a0, q1, q2, q3, q4, q5, q6, q7⟩
      · rw [g3.1] at hD
        cases hD
      · rw [q1] at hD
        cases hD
        refine Or.inr ⟨b, by rw [r5]; exact q1, by rw [r1]; exact q2, by rw [r2]; exact q3, by rw [r4]; exact q4, by rw [r4]; exact q5, by rw [r4]; omega, fun t c hc => ?_⟩
        have htl := (List.getElem?_eq_some_iff.mp hc).1
        rw [hlen] at htl
        rw [r9 t htl]
        have hc2 := q7 _ _ (er_idx hc)
        by_cases ht : t < k
        · rw [if_pos ht] at hc2 ⊢
          exact hc2
        · rw [if_neg ht] at hc2 ⊢
          exact hc2
    · rw [va_up_ne _ _ hij, r6 i hij, r5]
      obtain ⟨g1, g2, g3⟩ := hA1 i hi
      refine ⟨g1, g2, ?_⟩
      rcases g3 with g3 | ⟨a0, q1, q2, q3, q4, q5, q6, q7⟩
      · exact Or.inl g3
      · have hne : a0 ≠ b := fun e => hij (hA2 i j a0 hi hj q1 (e ▸ hD))
        exact Or.inr ⟨a0, q1, by rw [r1]; exact q2, by rw [r2]; exact q3, by rw [r4]; exact q4, by rw [r4]; exact q5, by rw [r4]; exact q6, by rw [r8 a0 hne]; exact q7⟩
  · rw [r5] at h1 h2
    exact hA2 i m c hi hm h1 h2
  · rw [r1, r2]
    by_cases hij : i = j
    · subst hij
      rw [va_up_self] at hc
      exact hA3 i c hi (List.mem_of_mem_eraseIdx hc)
    · rw [va_up_ne _ _ hij] at hc
      exact hA3 i c hi hc
  · have key : ∀ i p, (va_up L j ((L j).eraseIdx k) i)[p]? = some c → (L i)[if i = j ∧ ¬ p < k then p + 1 else p]? = some c := by
      intro i p hp
      by_cases hij : i = j
      · subst hij
        rw [va_up_self] at hp
        have := er_idx hp
        by_cases hpk : p < k
        · rw [if_neg (fun q => q.2 hpk)]
          rw [if_pos hpk] at this
          exact this
        · rw [if_pos ⟨rfl, hpk⟩]
          rw [if_neg hpk] at this
          exact this
      · rw [va_up_ne _ _ hij] at hp
        rw [if_neg (fun q => hij q.1)]
        exact hp
    obtain ⟨e1, e2⟩ := hA4 i m _ _ c hi hm (key i p h1) (key m q h2)
    subst e1
    refine ⟨rfl, ?_⟩
    by_cases hij : i = j
    · by_cases hp : p < k <;> by_cases hq : q < k <;> simp only [hij, hp, hq, true_and, not_true, not_false_eq_true, if_true, if_false] at e2 <;> omega
    · simp only [hij, false_and, if_false] at e2
      exact e2
/-- an element taken out is in no list any more -/
theorem WFL.rem_no {x : St} {L : Nat → List Nat} {j k a : Nat} (h : WFL x L) (hj : j < 17) (ha : (L j)[k]? = some a) : ∀ i, i < 17 → a ∉ va_up L j ((L j).eraseIdx k) i := by
  intro i hi hc
  by_cases hij : i = j
  · subst hij
    rw [va_up_self] at hc
    obtain ⟨p, hp⟩ := List.getElem?_of_mem hc
    have h1 := (h.2.2.2 i i _ k a hi hi (er_idx hp) ha).2
    by_cases hpk : p < k
    · rw [if_pos hpk] at h1
      omega
    · rw [if_neg hpk] at h1
      omega
  · rw [va_up_ne _ _ hij] at hc
    obtain ⟨p, hp⟩ := List.getElem?_of_mem hc
    exact hij (h.2.2.2 i j p k a hi hj hp ha).1
/-- list j's backing, where it has an element -/
theorem WFL.data {x : St} {L : Nat → List Nat} {j k a : Nat} (h : WFL x L) (hj : j < 17) (ha : (L j)[k]? = some a) : ∃ b, x.LD j = some b ∧ b ∈ x.PL ∧ x.PK b = false ∧ x.BN b ≤ 96 ∧ x.FL j 2 = nI (L j).length ∧ (L j).length ≤ x.BN b ∧ k < (L j).length ∧ x.BR b k = some a ∧ ∀ t, t < (L j).length → ∀ q, x.BR b t = some q → q ∈ x.PL ∧ x.PK q = true := by
  have hk := (List.getElem?_eq_some_iff.mp ha).1
  obtain ⟨h1, h2, h3 | ⟨b, q1, q2, q3, q4, q5, q6, q7⟩⟩ := h.1 j hj
  · rw [h3.2] at hk
    exact absurd hk (Nat.not_lt_zero _)
  · refine ⟨b, q1, q2, q3, q5, h1, q6, hk, q7 k a ha, fun t ht q hq => ?_⟩
    have := q7 t _ (List.getElem?_eq_getElem ht)
    rw [this] at hq
    rw [← Option.some.inj hq]
    exact h.2.2.1 j _ hj (List.getElem_mem ht)
theorem c_add (l : Launch) (E : gE) (x : St) (L : Nat → List Nat) (j a : Nat) (hj : j < 17) (h : WFL x L) (hn : (L j).length ≤ 63) (ha : a ∈ x.PL) (hka : x.PK a = true) : Ct l yJx4a65c_add_9ea2d wsJx4a65c_add_9ea2d { frames := 6, cells := 1, slots := 96, locals := 205 } E [.ref (aL E j), .ref a] x (fun u y => u = some (.int (nI 1)) ∧ AddP x y j (L j).length a) 1 96 := by
  obtain ⟨h1, h2, h3 | ⟨b, q1, q2, q3, q4, q5, q6, q7⟩⟩ := h.1 j hj
  · rw [h3.2] at h1 ⊢
    exact c_Jx4a65c_add_9ea2d_n l E x j a hj h3.1 h1 ha hka
  · rcases Nat.lt_or_ge (L j).length (x.BN b) with hlt | hge
    · exact c_Jx4a65c_add_9ea2d_s l E x j a b _ hj q1 q2 q3 h1 hlt ha hka q4 q5
    · have e : (L j).length = x.BN b := by omega
      refine c_Jx4a65c_add_9ea2d_f l E x j a b _ hj q1 q2 q3 h1 e hn (fun t ht q hq => ?_) ha hka q4 q5
      rw [← e] at ht
      have := q7 t _ (List.getElem?_eq_getElem ht)
      rw [this] at hq
      rw [← Option.some.inj hq]
      exact h.2.2.1 j _ hj (List.getElem_mem ht)
theorem c_remove (l : Launch) (E : gE) (x : St) (L : Nat → List Nat) (j k a : Nat) (hj : j < 17) (h : WFL x L) (hk : (L j)[k]? = some a) : Ct l yJx4a65c_remove_915e3 wsJx4a65c_remove_915e3 { frames := 2, cells := 0, slots := 0, locals := 83 } E [.ref (aL E j), .int (nI k)] x (fun u y => u = some (.ref a) ∧ ∃ b, x.LD j = some b ∧ RemP x y j k (L j).length b) 0 0 := by
  obtain ⟨b, h1, h2, h3, h4, h5, h6, h7, h8, h9⟩ := h.data hj hk
  exact Ct.imp (c_Jx4a65c_remove_915e3 l E x j k b a _ hj h1 h2 h3 h4 h5 h6 h7 h8 h9) (fun u y ⟨g1, g, g2, g3⟩ => ⟨g1, b, h1, _, g, g2, g3⟩)
