/-! ===== class and model side by side: isInOrder ===== -/
theorem pm2 {α β : Type} {a b : α} {c d : β} (h1 : a = b) (h2 : c = d) : (a, c) = (b, d) := by rw [h1, h2]
section ORD
variable {v : Vw} {x u A : St} {R K S V W : Nat → Nat → Int} {O : Nat → List Nat} {H : Nat → Nat → Int} {q : Nat → List M7} {i j k T : Nat} {m : M7}
/-- after a caches: the model's five numbers, and what is left to the class -/
def OP (x u : St) (j a n : Nat) : Prop :=
  (∃ (h o d : Nat) (f : Int32), lp_X6_isInOrder_ok_34 x j (nI 0) (nI 0) (nI 0) (-1) 1 a = (nI h, nI o, nI d, f, 1) ∧ h ≤ a ∧ o ≤ a ∧ d ≤ a ∧ (h = 0 ↔ f = -1) ∧ lq_X5_isInOrder_17 u j 4 0 0 0 0 (-1) = lq_X5_isInOrder_17 u j n a h o d f) ∨
  ((lp_X6_isInOrder_ok_34 x j (nI 0) (nI 0) (nI 0) (-1) 1 a).2.2.2.2 = 0 ∧ lq_X5_isInOrder_17 u j 4 0 0 0 0 (-1) = 0)
theorem OP_step (h : SM v x A T) (hu : ∀ i a j, u.AC i a j = v.x.AC i a j) (hj : j < 16) {a n : Nat} (ha : a < 4) (hp : OP x u j a (n + 1)) : OP x u j (a + 1) n := by
  obtain ⟨R, K, S, V, W, O, H, q, hc, hI, hM, hP⟩ := h
  obtain ⟨z1, z2, z3⟩ := hM.2.2.1 a j ha hj
  have v6 := hI.2.2.2.2.2.2.1 a ha j hj
  unfold valA at v6
  have e1 : x.AM 2 (16 * a + j) = u.AC a 0 j := i32_eq.mpr (by rw [z1, hu, hc.gS])
  have eS : (u.AC a 0 j).toInt = S a j := by rw [hu, hc.gS]
  rcases hp with ⟨hh, o, d, f, p1, p2, p3, p4, p5, p6⟩ | ⟨p1, p2⟩
  · rcases (show S a j = 0 ∨ S a j = 1 ∨ S a j = 2 ∨ S a j = 3 by omega) with hs | hs | hs | hs
    · have e0 : u.AC a 0 j = 0 := i32_eq.mpr (by rw [eS, hs]; rfl)
      refine Or.inl ⟨hh, o, d, f, ?_, by omega, by omega, by omega, p5, ?_⟩
      · unfold lp_X6_isInOrder_ok_34
        rw [St.AM_setFM, e1, if_pos e0, p1]
      · rw [p6]
        conv => lhs; unfold lq_X5_isInOrder_17
        unfold r_X0_holds_x
        rw [if_pos e0]
        exact if_pos rfl
    · have hz : S a j ≠ 0 := by omega
      have e0 : u.AC a 0 j = nI 1 := i32_eq.mpr (by rw [eS, hs]; rfl)
      have en0 : ¬ u.AC a 0 j = 0 := by rw [e0]; decide
      have eV : x.AM 3 (16 * a + j) = u.AC a 1 j := i32_eq.mpr (by rw [z2 hz, hu, hc.gV])
      have vn : ¬ u.AC a 1 j = -1 := fun e => by
        have := i32_eq.mp e
        rw [hu, hc.gV, tm1] at this
        have := v6.2.2.2.1 hz
        omega
      have en1 : ¬ nI (r_X0_holds_x u a j) = 0 := by
        unfold r_X0_holds_x
        rw [if_neg en0]
        decide
      by_cases h0 : hh = 0
      · refine Or.inl ⟨hh + 1, o + 0, d + 0, u.AC a 1 j, ?_, by omega, by omega, by omega, ⟨fun e => by omega, fun e => (vn e).elim⟩, ?_⟩
        · unfold lp_X6_isInOrder_ok_34
          rw [St.AM_setFM, e1, eV, if_neg en0, p1, e0]
          dsimp only
          rw [if_pos (show nI 1 < nI 2 by decide), if_neg (show ¬ nI 1 = nI 3 by decide), if_neg (show ¬ nI 1 = 0 by decide), if_pos (p5.mp h0)]
          exact pm2 (nI_add hh 1) (pm2 (nI_add o 0) (pm2 (nI_add d 0) rfl))
        · rw [p6]
          conv => lhs; unfold lq_X5_isInOrder_17
          rw [if_neg en1, if_pos (show nI hh ≤ 0 by rw [h0]; decide), if_pos e0, if_neg (show ¬ u.AC a 0 j = nI 3 by rw [e0]; decide)]
      · have hf : ¬ f = -1 := fun e => h0 (p5.mpr e)
        have hle : ¬ nI hh ≤ 0 := nI_nle (by omega) (by omega)
        by_cases hv : u.AC a 1 j = f
        · refine Or.inl ⟨hh + 1, o + 0, d + 0, u.AC a 1 j, ?_, by omega, by omega, by omega, ⟨fun e => by omega, fun e => (vn e).elim⟩, ?_⟩
          · unfold lp_X6_isInOrder_ok_34
            rw [St.AM_setFM, e1, eV, if_neg en0, p1, e0]
            dsimp only
            rw [if_pos (show nI 1 < nI 2 by decide), if_neg (show ¬ nI 1 = nI 3 by decide), if_neg (show ¬ nI 1 = 0 by decide), if_neg hf, if_pos hv]
            exact pm2 (nI_add hh 1) (pm2 (nI_add o 0) (pm2 (nI_add d 0) rfl))
          · rw [p6]
            conv => lhs; unfold lq_X5_isInOrder_17
            rw [if_neg en1, if_neg hle, if_pos hv, if_pos e0, if_neg (show ¬ u.AC a 0 j = nI 3 by rw [e0]; decide)]
        · refine Or.inr ⟨?_, ?_⟩
          · unfold lp_X6_isInOrder_ok_34
            rw [St.AM_setFM, e1, eV, if_neg en0, p1, e0]
            dsimp only
            rw [if_pos (show nI 1 < nI 2 by decide), if_neg (show ¬ nI 1 = nI 3 by decide), if_neg (show ¬ nI 1 = 0 by decide), if_neg hf, if_neg hv]
          · rw [p6]
            conv => lhs; unfold lq_X5_isInOrder_17
            rw [if_neg en1, if_neg hle, if_neg hv]
    · have hz : S a j ≠ 0 := by omega
      have e0 : u.AC a 0 j = nI 2 := i32_eq.mpr (by rw [eS, hs]; rfl)
      have en0 : ¬ u.AC a 0 j = 0 := by rw [e0]; decide
      have eV : x.AM 3 (16 * a + j) = u.AC a 1 j := i32_eq.mpr (by rw [z2 hz, hu, hc.gV])
      have vn : ¬ u.AC a 1 j = -1 := fun e => by
        have := i32_eq.mp e
        rw [hu, hc.gV, tm1] at this
        have := v6.2.2.2.1 hz
        omega
      have en1 : ¬ nI (r_X0_holds_x u a j) = 0 := by
        unfold r_X0_holds_x
        rw [if_neg en0]
        decide
      by_cases h0 : hh = 0
      · refine Or.inl ⟨hh + 1, o + 1, d + 0, u.AC a 1 j, ?_, by omega, by omega, by omega, ⟨fun e => by omega, fun e => (vn e).elim⟩, ?_⟩
        · unfold lp_X6_isInOrder_ok_34
          rw [St.AM_setFM, e1, eV, if_neg en0, p1, e0]
          dsimp only
          rw [if_neg (show ¬ nI 2 < nI 2 by decide), if_neg (show ¬ nI 2 = nI 3 by decide), if_neg (show ¬ nI 1 = 0 by decide), if_pos (p5.mp h0)]
          exact pm2 (nI_add hh 1) (pm2 (nI_add o 1) (pm2 (nI_add d 0) rfl))
        · rw [p6]
          conv => lhs; unfold lq_X5_isInOrder_17
          rw [if_neg en1, if_pos (show nI hh ≤ 0 by rw [h0]; decide), if_neg (show ¬ u.AC a 0 j = nI 1 by rw [e0]; decide), if_neg (show ¬ u.AC a 0 j = nI 3 by rw [e0]; decide)]
      · have hf : ¬ f = -1 := fun e => h0 (p5.mpr e)
        have hle : ¬ nI hh ≤ 0 := nI_nle (by omega) (by omega)
        by_cases hv : u.AC a 1 j = f
        · refine Or.inl ⟨hh + 1, o + 1, d + 0, u.AC a 1 j, ?_, by omega, by omega, by omega, ⟨fun e => by omega, fun e => (vn e).elim⟩, ?_⟩
          · unfold lp_X6_isInOrder_ok_34
            rw [St.AM_setFM, e1, eV, if_neg en0, p1, e0]
            dsimp only
            rw [if_neg (show ¬ nI 2 < nI 2 by decide), if_neg (show ¬ nI 2 = nI 3 by decide), if_neg (show ¬ nI 1 = 0 by decide), if_neg hf, if_pos hv]
            exact pm2 (nI_add hh 1) (pm2 (nI_add o 1) (pm2 (nI_add d 0) rfl))
          · rw [p6]
            conv => lhs; unfold lq_X5_isInOrder_17
            rw [if_neg en1, if_neg hle, if_pos hv, if_neg (show ¬ u.AC a 0 j = nI 1 by rw [e0]; decide), if_neg (show ¬ u.AC a 0 j = nI 3 by rw [e0]; decide)]
        · refine Or.inr ⟨?_, ?_⟩
          · unfold lp_X6_isInOrder_ok_34
            rw [St.AM_setFM, e1, eV, if_neg en0, p1, e0]
            dsimp only
            rw [if_neg (show ¬ nI 2 < nI 2 by decide), if_neg (show ¬ nI 2 = nI 3 by decide), if_neg (show ¬ nI 1 = 0 by decide), if_neg hf, if_neg hv]
          · rw [p6]
            conv => lhs; unfold lq_X5_isInOrder_17
            rw [if_neg en1, if_neg hle, if_neg hv]
    · have hz : S a j ≠ 0 := by omega
      have e0 : u.AC a 0 j = nI 3 := i32_eq.mpr (by rw [eS, hs]; rfl)
      have en0 : ¬ u.AC a 0 j = 0 := by rw [e0]; decide
      have eV : x.AM 3 (16 * a + j) = u.AC a 1 j := i32_eq.mpr (by rw [z2 hz, hu, hc.gV])
      have vn : ¬ u.AC a 1 j = -1 := fun e => by
        have := i32_eq.mp e
        rw [hu, hc.gV, tm1] at this
        have := v6.2.2.2.1 hz
        omega
      have en1 : ¬ nI (r_X0_holds_x u a j) = 0 := by
        unfold r_X0_holds_x
        rw [if_neg en0]
        decide
      by_cases h0 : hh = 0
      · refine Or.inl ⟨hh + 1, o + 1, d + 1, u.AC a 1 j, ?_, by omega, by omega, by omega, ⟨fun e => by omega, fun e => (vn e).elim⟩, ?_⟩
        · unfold lp_X6_isInOrder_ok_34
          rw [St.AM_setFM, e1, eV, if_neg en0, p1, e0]
          dsimp only
          rw [if_neg (show ¬ nI 3 < nI 2 by decide), if_pos (show nI 3 = nI 3 by decide), if_neg (show ¬ nI 1 = 0 by decide), if_pos (p5.mp h0)]
          exact pm2 (nI_add hh 1) (pm2 (nI_add o 1) (pm2 (nI_add d 1) rfl))
        · rw [p6]
          conv => lhs; unfold lq_X5_isInOrder_17
          rw [if_neg en1, if_pos (show nI hh ≤ 0 by rw [h0]; decide), if_neg (show ¬ u.AC a 0 j = nI 1 by rw [e0]; decide), if_pos e0]
      · have hf : ¬ f = -1 := fun e => h0 (p5.mpr e)
        have hle : ¬ nI hh ≤ 0 := nI_nle (by omega) (by omega)
        by_cases hv : u.AC a 1 j = f
        · refine Or.inl ⟨hh + 1, o + 1, d + 1, u.AC a 1 j, ?_, by omega, by omega, by omega, ⟨fun e => by omega, fun e => (vn e).elim⟩, ?_⟩
          · unfold lp_X6_isInOrder_ok_34
            rw [St.AM_setFM, e1, eV, if_neg en0, p1, e0]
            dsimp only
            rw [if_neg (show ¬ nI 3 < nI 2 by decide), if_pos (show nI 3 = nI 3 by decide), if_neg (show ¬ nI 1 = 0 by decide), if_neg hf, if_pos hv]
            exact pm2 (nI_add hh 1) (pm2 (nI_add o 1) (pm2 (nI_add d 1) rfl))
          · rw [p6]
            conv => lhs; unfold lq_X5_isInOrder_17
            rw [if_neg en1, if_neg hle, if_pos hv, if_neg (show ¬ u.AC a 0 j = nI 1 by rw [e0]; decide), if_pos e0]
        · refine Or.inr ⟨?_, ?_⟩
          · unfold lp_X6_isInOrder_ok_34
            rw [St.AM_setFM, e1, eV, if_neg en0, p1, e0]
            dsimp only
            rw [if_neg (show ¬ nI 3 < nI 2 by decide), if_pos (show nI 3 = nI 3 by decide), if_neg (show ¬ nI 1 = 0 by decide), if_neg hf, if_neg hv]
          · rw [p6]
            conv => lhs; unfold lq_X5_isInOrder_17
            rw [if_neg en1, if_neg hle, if_neg hv]
  · refine Or.inr ⟨?_, p2⟩
    have pz : nI (lp_X6_isInOrder_ok_34 x j (nI 0) (nI 0) (nI 0) (-1) 1 a).2.2.2.2 = 0 := by rw [p1]; rfl
    unfold lp_X6_isInOrder_ok_34
    by_cases c1 : (x.setFM 0 (nI 0)).AM 2 (16 * a + j) = 0
    · rw [if_pos c1]
      exact p1
    rw [if_neg c1]
    by_cases c2 : (x.setFM 0 (nI 0)).AM 2 (16 * a + j) < nI 2
    · rw [if_pos c2]
      by_cases c3 : (x.setFM 0 (nI 0)).AM 2 (16 * a + j) = nI 3
      · rw [if_pos c3, if_pos pz]
      · rw [if_neg c3, if_pos pz]
    · rw [if_neg c2]
      by_cases c3 : (x.setFM 0 (nI 0)).AM 2 (16 * a + j) = nI 3
      · rw [if_pos c3, if_pos pz]
      · rw [if_neg c3, if_pos pz]
theorem order_sim (h : SM v x A T) (hu : ∀ i a j, u.AC i a j = v.x.AC i a j) (hj : j < 16) : r_X6_isInOrder_ok x j = r_X5_isInOrder u j := by
  have p0 : OP x u j 0 4 := Or.inl ⟨0, 0, 0, -1, rfl, by omega, by omega, by omega, ⟨fun _ => rfl, fun _ => rfl⟩, rfl⟩
  have p4 := OP_step h hu hj (by decide) (OP_step h hu hj (by decide) (OP_step h hu hj (by decide) (OP_step h hu hj (by decide) p0)))
  unfold r_X6_isInOrder_ok r_X5_isInOrder
  dsimp only
  rcases p4 with ⟨hh, o, d, f, p1, p2, p3, p4, p5, p6⟩ | ⟨p1, p2⟩
  · rw [p1, p6]
    unfold lq_X5_isInOrder_17
    dsimp only
    rw [if_neg (show ¬ nI 1 = 0 by decide)]
    have ho : nI 1 < nI o ↔ 1 < o := nI_ltI (by omega) (by omega)
    by_cases h1 : 1 < o
    · rw [if_pos (ho.mpr h1), if_pos h1]
    · rw [if_neg (fun e => h1 (ho.mp e)), if_neg h1]
      by_cases h2 : nI d = 0
      · rw [if_pos h2, if_pos h2]
      · rw [if_neg h2, if_neg h2]
        have hn : nI hh = nI 1 ↔ hh = 1 := nI_eq (by omega) (by omega)
        by_cases h3 : hh = 1
        · rw [if_pos (hn.mpr h3), if_pos h3]
        · rw [if_neg (fun e => h3 (hn.mp e)), if_neg h3]
  · rw [if_pos (show nI (lp_X6_isInOrder_ok_34 x j (nI 0) (nI 0) (nI 0) (-1) 1 4).2.2.2.2 = 0 by rw [p1]; rfl), p2]
end ORD
