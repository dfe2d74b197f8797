/-! ===== class and model side by side: the calls that only read ===== -/
section OBS
variable {v : Vw} {x y A : St} {R K S V W : Nat → Nat → Int} {O : Nat → List Nat} {H : Nat → Nat → Int} {q : Nat → List M7} {i j k T : Nat} {m : M7}
theorem SM.f0 {w : Int32} (h : SM v x A T) : SM v (x.setFM 0 w) A T := by
  obtain ⟨R, K, S, V, W, O, H, q, hc, hI, hM, hP⟩ := h
  exact ⟨R, K, S, V, W, O, H, q, hc, hI, hM.fm0, hP⟩
theorem SM.state (h : SM v x A T) (hi : i < 4) (hj : j < 16) : x.AM 2 (16 * i + j) = v.x.AC i 0 j := by
  obtain ⟨R, K, S, V, W, O, H, q, hc, hI, hM, hP⟩ := h
  exact i32_eq.mpr (by rw [(hM.2.2.1 i j hi hj).1, hc.gS])
theorem SM.vict (h : SM v x A T) (hi : i < 4) (hj : j < 16) : x.AM 5 (16 * i + j) = v.x.AC i 2 j := by
  obtain ⟨R, K, S, V, W, O, H, q, hc, hI, hM, hP⟩ := h
  exact i32_eq.mpr (by rw [(hM.2.2.1 i j hi hj).2.2, hc.gW])
theorem SM.nums (h : SM v x A T) (hi : i < 4) : x.AM 9 i = v.x.FR i 0 ∧ x.AM 8 i = v.x.FC i 11 ∧ x.AM 6 i = v.x.FC i 12 ∧ x.AM 7 i = v.x.FC i 13 := by
  obtain ⟨R, K, S, V, W, O, H, q, hc, hI, hM, hP⟩ := h
  obtain ⟨z1, z2, z3, z4, z5, z6⟩ := hM.1 i hi
  exact ⟨i32_eq.mpr (by rw [z6, hc.gR]), i32_eq.mpr (by rw [z5, hc.gK i 11 (by decide)]), i32_eq.mpr (by rw [z3, hc.gK i 12 (by decide)]), i32_eq.mpr (by rw [z4, hc.gK i 13 (by decide)])⟩
theorem SM.home (h : SM v x A T) (hj : j < 16) : x.AM 16 j = v.x.FH j 3 ∧ x.AM 17 j = v.x.FH j 4 ∧ x.AM 18 j = v.x.FH j 5 ∧ x.AM 19 j = v.x.FH j 6 ∧ x.AM 21 j = nI (v.q j).length ∧ (v.x.FH j 6 = 0 ∨ v.x.FH j 6 = 1) := by
  obtain ⟨R, K, S, V, W, O, H, q, hc, hI, hM, hP⟩ := h
  obtain ⟨z1, z2, z3, z4, z5⟩ := hM.2.2.2.2.1 j hj
  refine ⟨i32_eq.mpr (by rw [z1, hc.gH]), i32_eq.mpr (by rw [z2, hc.gH]), i32_eq.mpr (by rw [z3, hc.gH]), i32_eq.mpr (by rw [z4, hc.gH]), by rw [hc.gq]; exact z5, ?_⟩
  rcases (hI.2.2.2.2.2.2.2.2.1 j hj).1 with e | e
  · exact Or.inl (i32_eq.mpr (by rw [hc.gH, e]; rfl))
  · exact Or.inr (i32_eq.mpr (by rw [hc.gH, e]; rfl))
theorem SM.way (h : SM v x A T) : x.FM 4 = nI (v.q 16).length ∧ (v.q 16).length ≤ 44 := by
  obtain ⟨R, K, S, V, W, O, H, q, hc, hI, hM, hP⟩ := h
  have hlen := hI.len
  unfold allq at hlen
  rw [List.length_append] at hlen
  rw [hc.gq]
  exact ⟨hM.2.2.2.2.2.2.1.1, by omega⟩
theorem SM.sok (h : SM v x A T) {n : Nat} (hn : n ≤ 300) : sOK x n := by
  obtain ⟨h1, h2⟩ := h.way
  have e : nat (x.FM 4) = (v.q 16).length := by rw [h1, nat_nI (by omega)]
  exact ⟨by rw [e]; exact h1, by rw [e]; omega⟩
theorem SM.kn (h : SM v x A T) (hk : k < (v.q 16).length) : k < nat (x.FM 4) := by
  obtain ⟨h1, h2⟩ := h.way
  rw [h1, nat_nI (by omega)]
  exact hk
theorem SM.row (h : SM v x A T) (hk : k < (v.q 16).length) : x.AM 22 (7 * k + 0) = mat v 16 k 0 ∧ x.AM 22 (7 * k + 1) = mat v 16 k 1 ∧ x.AM 22 (7 * k + 2) = mat v 16 k 2 ∧ x.AM 22 (7 * k + 3) = mat v 16 k 3 := by
  obtain ⟨R, K, S, V, W, O, H, q, hc, hI, hM, hP⟩ := h
  unfold mat
  rw [hc.gq] at hk ⊢
  rw [List.getElem?_eq_getElem hk]
  obtain ⟨z1, z2, z3, z4, -⟩ := hM.2.2.2.2.2.2.1.2 k _ (List.getElem?_eq_getElem hk)
  exact ⟨z1, z2, z3, z4⟩
theorem SM.uo (h : SM v x A T) (hi : i < 4) : (v.x.FC i 7 = nI (nat (v.x.FC i 7)) ∧ nat (v.x.FC i 7) ≤ 4) ∧ (v.x.AC i 3 0 = nI (nat (v.x.AC i 3 0)) ∧ nat (v.x.AC i 3 0) < 16) := by
  obtain ⟨R, K, S, V, W, O, H, q, hc, hI, hM, hP⟩ := h
  exact ⟨(hc.wo hi).1, (hc.wo hi).2 0 (by decide)⟩
/-- value -/
theorem value_sim (h : SM v x A T) (hi : i < 4) (hj : j < 16) : (nI (r_X0_holds v i j) = 0 → (s_X6_value_ok x i j).FM 0 = nI 2) ∧ (¬ nI (r_X0_holds v i j) = 0 → (s_X6_value_ok x i j).FM 0 = nI 0 ∧ r_X6_value_ok x i j = r_X5_value v i j) ∧ SM v (s_X6_value_ok x i j) A T := by
  have h2 := h
  obtain ⟨R, K, S, V, W, O, H, q, hc, hI, hM, hP⟩ := h
  have e := hM.2.2.1 i j hi hj
  have hs := sN0 hI hi j hj
  have e2 : (x.setFM 0 (nI 0)).AM 2 (16 * i + j) ≤ 0 ↔ S i j = 0 := by
    rw [St.AM_setFM, i32_le0, e.1]
    omega
  unfold s_X6_value_ok r_X6_value_ok r_X5_value
  dsimp only
  rw [holds_iff hc]
  by_cases hz : S i j = 0
  · rw [if_pos (e2.mpr hz), if_pos (e2.mpr hz)]
    exact ⟨fun _ => rfl, fun q => (q hz).elim, h2.f0.f0⟩
  · rw [if_neg (fun q => hz (e2.mp q)), if_neg (fun q => hz (e2.mp q))]
    exact ⟨fun q => (hz q).elim, fun _ => ⟨rfl, i32_eq.mpr (by rw [St.AM_setFM, e.2.1 hz, hc.gV])⟩, h2.f0⟩
/-- lineAt -/
theorem lineAt_sim (h : SM v x A T) (hi : i < 4) : (∀ k : Nat, k < 4 → nI k < v.x.FC i 7 → (s_X6_lineAt_ok x i (nI k)).FM 0 = nI 0 ∧ r_X6_lineAt_ok x i (nI k) = r_X5_lineAt v i k) ∧ (∀ b : Int32, (b < 0 ∨ v.x.FC i 7 ≤ b) → (s_X6_lineAt_ok x i b).FM 0 = nI 2) ∧ ∀ b, SM v (s_X6_lineAt_ok x i b) A T := by
  have h2 := h
  obtain ⟨R, K, S, V, W, O, H, q, hc, hI, hM, hP⟩ := h
  have hM0 : MR (x.setFM 0 (nI 0)) T R K S V W O H q := hM.fm0
  obtain ⟨g1, g2, g3⟩ := hc.gO hi
  have h5 := hI.2.2.2.2.2.1 i hi
  have hL := fun b => lineBy_eq hM0.2.2.1 hi (sN0 hI hi) h5 hM0.2.2.2.1 (b := b)
  have hlen : (O i).length ≤ 4 := g2
  refine ⟨fun k hk hlt => ?_, fun b hb => ?_, fun b => ?_⟩
  · rw [g1, nI_ltI (by omega) (by omega)] at hlt
    have e0 : (O i)[k]? = some (O i)[k] := List.getElem?_eq_getElem hlt
    have e1 := (hL (nI k)).1 k _ e0 rfl
    have e2 := g3 k _ e0
    unfold s_X6_lineAt_ok r_X6_lineAt_ok r_X5_lineAt
    dsimp only
    rw [if_pos (nI_pos' (by omega)), if_pos (nI_pos' (by omega)), e1, if_neg (nn16 e2.2 rfl), if_neg (nn16 e2.2 rfl), e2.1]
    exact ⟨rfl, rfl⟩
  · unfold s_X6_lineAt_ok
    dsimp only
    by_cases h0 : 0 ≤ b
    · rw [if_pos h0]
      have h1 : v.x.FC i 7 ≤ b := hb.resolve_left (fun e => by
        rw [Int32.lt_iff_toInt_lt] at e
        rw [Int32.le_iff_toInt_le] at h0
        omega)
      have e1 := (hL b).2 (fun p hp e => by
        rw [g1, e, nI_leI (by omega) (by omega)] at h1
        omega)
      rw [e1, if_pos rfl]
      rfl
    · rw [if_neg h0, if_pos rfl]
      rfl
  · unfold s_X6_lineAt_ok
    dsimp only
    split
    · split
      · exact h2.f0.f0
      · exact h2.f0
    · split
      · exact h2.f0.f0
      · exact h2.f0
/-- writebacks, lateWritebacks -/
theorem wb_lp (hc : CE v A R K S V W O H q) : ∀ n, lp_X5_writebacks_4 v (nI 0) n = isum (fun j => Int32.ofInt (H j 7)) n ∧ lp_X5_lateWritebacks_4 v (nI 0) n = isum (fun j => Int32.ofInt (H j 8)) n := by
  intro n
  induction n with
  | zero => exact ⟨rfl, rfl⟩
  | succ n ih =>
    unfold lp_X5_writebacks_4 lp_X5_lateWritebacks_4 isum
    rw [ih.1, ih.2, ← hc.gH n 7, ← hc.gH n 8, Int32.ofInt_toInt, Int32.ofInt_toInt]
    exact ⟨rfl, rfl⟩
theorem wb_sim (h : SM v x A T) : r_X6_writebacks x = r_X5_writebacks v ∧ r_X6_lateWritebacks x = r_X5_lateWritebacks v := by
  obtain ⟨R, K, S, V, W, O, H, q, hc, hI, hM, hP⟩ := h
  obtain ⟨f2, f3⟩ := hM.mW
  obtain ⟨e1, e2⟩ := wb_lp hc 16
  unfold r_X6_writebacks r_X6_lateWritebacks r_X5_writebacks r_X5_lateWritebacks
  dsimp only
  rw [FM_ne (by decide), FM_ne (by decide), f2, f3, e1, e2]
  exact ⟨rfl, rfl⟩
/-- digest -/
theorem dg_91 (h : SM v x A T) (hj : j < 16) {b c : Int64} : ∀ n, n ≤ 4 → lp_X6_digest_91 x j b n = lp_X5_addLine_95 v c j b n := by
  obtain ⟨R, K, S, V, W, O, H, q, hc, hI, hM, hP⟩ := h
  intro n
  induction n with
  | zero => exact fun _ => rfl
  | succ n ih =>
    intro hn
    obtain ⟨z1, z2, z3⟩ := hM.2.2.1 n j (by omega) hj
    have v6 := hI.2.2.2.2.2.2.1 n (by omega) j hj
    unfold valA at v6
    have e1 : x.AM 2 (16 * n + j) = v.x.AC n 0 j := i32_eq.mpr (by rw [z1, hc.gS])
    have e3 : x.AM 5 (16 * n + j) = v.x.AC n 2 j := i32_eq.mpr (by rw [z3, hc.gW])
    unfold lp_X6_digest_91 lp_X5_addLine_95
    rw [ih (by omega), St.AM_setFM, e1, e3]
    by_cases hs : S n j = 0
    · rw [if_pos (i32_le0.mpr (by rw [hc.gS]; omega)), show v.x.AC n 1 j = -1 from i32_eq.mpr (by rw [hc.gV, v6.2.2.1 hs]; rfl)]
    · rw [if_neg (fun q => by have := i32_le0.mp q; rw [hc.gS] at this; omega), show x.AM 3 (16 * n + j) = v.x.AC n 1 j from i32_eq.mpr (by rw [z2 hs, hc.gV])]
theorem dg_11 (h : SM v x A T) : ∀ n, n ≤ 16 → lp_X6_digest_11 x (47 : Int64) n = lp_X5_digest_6 v (47 : Int64) n := by
  intro n
  induction n with
  | zero => exact fun _ => rfl
  | succ n ih =>
    intro hn
    obtain ⟨z1, z2, z3, z4, z5, -⟩ := h.home (j := n) (by omega)
    unfold lp_X6_digest_11 lp_X5_digest_6 r_X5_addLine
    rw [ih (by omega), St.AM_setFM, z1, z2, z3, z4, z5]
    by_cases hb : v.x.FH n 6 = 0
    · rw [if_pos hb, if_pos hb, show (nI 0).toInt64 = (0 : Int64) by decide]
      exact dg_91 h (by omega) 4 (Nat.le_refl _)
    · rw [if_neg hb, if_neg hb, show (nI 1).toInt64 = (1 : Int64) by decide]
      exact dg_91 h (by omega) 4 (Nat.le_refl _)
theorem dg_174 (h : SM v x A T) {b : Int64} : ∀ n, n ≤ 4 → lp_X6_digest_174 x b n = lp_X5_digest_27 v b n := by
  intro n
  induction n with
  | zero => exact fun _ => rfl
  | succ n ih =>
    intro hn
    unfold lp_X6_digest_174 lp_X5_digest_27
    rw [ih (by omega), St.AM_setFM, (h.nums (i := n) (by omega)).1]
theorem dg_201 (h : SM v x A T) {b : Int64} : ∀ n, n ≤ (v.q 16).length → lp_X6_digest_201 x b n = lp_X5_digest_60 v b n := by
  intro n
  induction n with
  | zero => exact fun _ => rfl
  | succ n ih =>
    intro hn
    obtain ⟨z0, z1, z2, z3⟩ := h.row (k := n) (by omega)
    unfold lp_X6_digest_201 lp_X5_digest_60
    rw [ih (by omega)]
    unfold lp_X6_digest_212
    unfold lp_X6_digest_212
    unfold lp_X6_digest_212
    unfold lp_X6_digest_212
    unfold lp_X6_digest_212
    rw [St.AM_setFM, z0, z1, z2, z3]
theorem digest_sim (h : SM v x A T) : r_X6_digest x = r_X5_digest v := by
  obtain ⟨w1, w2⟩ := h.way
  unfold r_X6_digest r_X5_digest
  dsimp only
  rw [FM_ne (by decide), w1, nat_nI (by omega), dg_11 h 16 (Nat.le_refl _), dg_174 h 4 (Nat.le_refl _)]
  exact dg_201 h _ (Nat.le_refl _)
end OBS
