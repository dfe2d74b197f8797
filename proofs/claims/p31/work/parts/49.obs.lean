/-! ===== what the calls that only read answer ===== -/
section OBS
variable {v : Vw} {u A : St} {N : Nat → Int} {i j : Nat}
theorem SV.way (h : SV v A N) : (v.q 16).length ≤ 44 := by
  obtain ⟨R, K, S, V, W, O, H, q, hc, hI, hV, hP⟩ := h
  have hlen := hI.len
  unfold allq at hlen
  rw [List.length_append] at hlen
  rw [hc.gq]
  omega
/-- after a caches: h have the line, o as owners, d modified; f is its value -/
def IO (S : Nat → Int) (n : Int) (a h o d : Nat) (f : Int32) : Prop := h ≤ a ∧ (h = 0 → o = 0 ∧ d = 0) ∧ (0 < h → f.toInt = n ∧ ∃ i, i < a ∧ S i ≠ 0) ∧ (o = 0 ∨ (o = 1 ∧ ∃ i, i < a ∧ 2 ≤ S i)) ∧ (d = 0 ∨ (d = 1 ∧ h = 1 ∧ ∃ i, i < a ∧ S i = 3))
theorem io_v (h : SV v A N) (hu : ∀ i a j, u.AC i a j = v.x.AC i a j) (hj : j < 16) : r_X5_isInOrder u j = 1 := by
  obtain ⟨R, K, S, V, W, O, H, q, hc, hI, hV, hP⟩ := h
  have key : ∀ (n a h o d : Nat) (f : Int32), a + n = 4 → IO (fun i => S i j) (N j) a h o d f → lq_X5_isInOrder_17 u j n a h o d f = 1 := by
    intro n
    induction n with
    | zero =>
      intro a h o d f ha ⟨q1, q2, q3, q4, q5⟩
      unfold lq_X5_isInOrder_17
      rw [if_neg (by omega)]
      rcases q5 with z | z
      · rw [z, if_pos (show nI 0 = 0 from rfl)]
      · by_cases e : nI d = 0
        · rw [if_pos e]
        · rw [if_neg e, if_pos z.2.1]
    | succ n ih =>
      intro a h o d f ha ⟨q1, q2, q3, q4, q5⟩
      have ha4 : a < 4 := by omega
      have v6 := hI.2.2.2.2.2.2.1 a ha4 j hj
      unfold valA at v6
      have w1 := hV.1 a ha4 j hj
      have w2 := hV.2.1
      have eS : (u.AC a 0 j).toInt = S a j := by rw [hu, hc.gS]
      have eV : (u.AC a 1 j).toInt = V a j := by rw [hu, hc.gV]
      have m1 : ∀ P : Int → Prop, (∃ i, i < a ∧ P (S i j)) → ∃ i, i < a + 1 ∧ P (S i j) := fun P ⟨i, h1, h2⟩ => ⟨i, by omega, h2⟩
      unfold lq_X5_isInOrder_17
      unfold r_X0_holds_x
      by_cases hs : S a j = 0
      · have e0 : u.AC a 0 j = 0 := i32_eq.mpr (by rw [eS, hs]; rfl)
        rw [if_pos e0, if_pos (show nI 0 = 0 from rfl)]
        exact ih (a + 1) h o d f (by omega) ⟨by omega, q2, fun z => ⟨(q3 z).1, m1 (fun x => x ≠ 0) (q3 z).2⟩, q4.imp_right (fun z => ⟨z.1, m1 (fun x => 2 ≤ x) z.2⟩), q5.imp_right (fun z => ⟨z.1, z.2.1, m1 (fun x => x = 3) z.2.2⟩)⟩
      · have en0 : ¬ u.AC a 0 j = 0 := fun e => hs (by rw [← eS, e]; rfl)
        rw [if_neg en0, if_neg (show ¬ nI 1 = 0 by decide)]
        have ef : (u.AC a 1 j).toInt = N j := by rw [eV]; exact w1 hs
        have nd : d = 0 := by
          rcases q5 with z | ⟨z1, z2, i, z3, z4⟩
          · exact z
          · have z5 : S i j = 3 := z4
            exact (hs ((w2 i (by omega) a ha4 j hj (by omega) (by omega)).2 z5)).elim
        have step : ∀ o' d' : Nat, ((S a j = 1 ∧ o' = o ∧ d' = d) ∨ (S a j = 2 ∧ o' = o + 1 ∧ d' = d) ∨ (S a j = 3 ∧ o' = o + 1 ∧ d' = d + 1)) → lq_X5_isInOrder_17 u j n (a + 1) (h + 1) o' d' (u.AC a 1 j) = 1 := by
          intro o' d' hk
          have no : 2 ≤ S a j → o = 0 := fun z => by
            rcases q4 with y | ⟨y1, i, y2, y3⟩
            · exact y
            · have := (w2 i (by omega) a ha4 j hj (by omega) y3).1
              omega
          refine ih (a + 1) (h + 1) o' d' _ (by omega) ⟨by omega, fun z => by omega, fun _ => ⟨ef, a, by omega, hs⟩, ?_, ?_⟩
          · rcases hk with ⟨k1, k2, k3⟩ | ⟨k1, k2, k3⟩ | ⟨k1, k2, k3⟩
            · rw [k2]
              exact q4.imp_right (fun z => ⟨z.1, m1 (fun x => 2 ≤ x) z.2⟩)
            · exact Or.inr ⟨by have := no (by omega); omega, a, by omega, show 2 ≤ S a j by omega⟩
            · exact Or.inr ⟨by have := no (by omega); omega, a, by omega, show 2 ≤ S a j by omega⟩
          · rcases hk with ⟨k1, k2, k3⟩ | ⟨k1, k2, k3⟩ | ⟨k1, k2, k3⟩
            · exact Or.inl (by omega)
            · exact Or.inl (by omega)
            · refine Or.inr ⟨by omega, ?_, a, by omega, k1⟩
              by_cases h0 : h = 0
              · omega
              · obtain ⟨y1, i, y2, y3⟩ := q3 (by omega)
                exact (y3 ((w2 a ha4 i (by omega) j hj (by omega) (by omega)).2 k1)).elim
        have e1 : u.AC a 0 j = nI 1 ↔ S a j = 1 := by rw [i32_eq, eS, t1]
        have e3 : u.AC a 0 j = nI 3 ↔ S a j = 3 := by rw [i32_eq, eS, t3]
        have tail : (if u.AC a 0 j = nI 1 then (if u.AC a 0 j = nI 3 then lq_X5_isInOrder_17 u j n (a + 1) (h + 1) (o + 0) (d + 1) (u.AC a 1 j) else lq_X5_isInOrder_17 u j n (a + 1) (h + 1) (o + 0) (d + 0) (u.AC a 1 j)) else (if u.AC a 0 j = nI 3 then lq_X5_isInOrder_17 u j n (a + 1) (h + 1) (o + 1) (d + 1) (u.AC a 1 j) else lq_X5_isInOrder_17 u j n (a + 1) (h + 1) (o + 1) (d + 0) (u.AC a 1 j))) = 1 := by
          rcases (show S a j = 1 ∨ S a j = 2 ∨ S a j = 3 by omega) with k | k | k
          · rw [if_pos (e1.mpr k), if_neg (fun e => by have := e3.mp e; omega)]
            exact step _ _ (Or.inl ⟨k, rfl, rfl⟩)
          · rw [if_neg (fun e => by have := e1.mp e; omega), if_neg (fun e => by have := e3.mp e; omega)]
            exact step _ _ (Or.inr (Or.inl ⟨k, rfl, rfl⟩))
          · rw [if_neg (fun e => by have := e1.mp e; omega), if_pos (e3.mpr k)]
            exact step _ _ (Or.inr (Or.inr ⟨k, rfl, rfl⟩))
        by_cases h0 : h = 0
        · rw [if_pos (show nI h ≤ 0 by rw [h0]; decide)]
          exact tail
        · rw [if_neg (nI_nle (show 0 < h by omega) (by omega)), if_pos (i32_eq.mpr (by rw [ef, (q3 (by omega)).1]))]
          exact tail
  unfold r_X5_isInOrder
  exact key 4 0 0 0 0 (-1) rfl ⟨by omega, fun _ => ⟨rfl, rfl⟩, fun z => by omega, Or.inl rfl, Or.inl rfl⟩
/-- a cache that has a line has its latest value -/
theorem val_v (h : SV v A N) (hi : i < 4) (hj : j < 16) (hs : 0 < v.x.AC i 0 j) : ¬ nI (r_X0_holds v i j) = 0 ∧ (v.x.AC i 1 j).toInt = N j := by
  obtain ⟨R, K, S, V, W, O, H, q, hc, hI, hV, hP⟩ := h
  have hp : 0 < S i j := by
    rw [← hc.gS]
    exact Int32.lt_iff_toInt_lt.mp hs
  refine ⟨fun e => by have := (holds_iff hc).mp e; omega, ?_⟩
  rw [hc.gV]
  exact hV.1 i hi j hj (by omega)
end OBS
