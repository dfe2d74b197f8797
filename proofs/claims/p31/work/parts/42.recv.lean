/-! ===== what a cache does with a message ===== -/
/-- what a delivery does to the requests: none is closed, or one, of cache c -/
def eff (v v' : Vw) (N N' : Nat → Int) : Prop := (rqE v v' ∧ N' = N) ∨ ∃ c j : Nat, c < 4 ∧ j < 16 ∧ cR v c 0 = (j : Int) ∧ cR v' c 0 = -1 ∧ (∀ k n, n < 3 → k ≠ c → cR v' k n = cR v k n) ∧
  ((cR v c 1 = 0 ∧ N' = N ∧ cS v' c j = 1 ∧ (v'.x.FC c 11).toInt = N j) ∨ (cR v c 1 = 1 ∧ N' = vN N j (cR v c 2) ∧ cS v' c j = 3))
section RECV
variable {v : Vw} {A : St} {R K S V W : Nat → Nat → Int} {O : Nat → List Nat} {H : Nat → Nat → Int} {N : Nat → Int} {q : Nat → List M7} {i j c d : Nat} {m : M7}
theorem fin_iff (hc : CE v A R K S V W O H q) : nI (r_X4_isComplete v i) = 0 ↔ (R i 3 = 0 ∨ R i 6 ≠ R i 5) := by
  have e3 : v.x.FR i 3 = 0 ↔ R i 3 = 0 := by
    rw [i32_eq, hc.gR]
    exact Iff.rfl
  have e6 : v.x.FR i 6 = v.x.FR i 5 ↔ R i 6 = R i 5 := by rw [i32_eq, hc.gR, hc.gR]
  unfold r_X4_isComplete
  by_cases h3 : R i 3 = 0
  · rw [if_pos (e3.mpr h3)]
    exact ⟨fun _ => Or.inl h3, fun _ => rfl⟩
  · rw [if_neg (fun e => h3 (e3.mp e))]
    by_cases h6 : R i 6 = R i 5
    · rw [if_pos (e6.mpr h6)]
      exact ⟨fun e => absurd e (by decide), fun e => (e.elim h3 (fun z => z h6)).elim⟩
    · rw [if_neg (fun e => h6 (e6.mp e))]
      exact ⟨fun _ => Or.inr h6, fun _ => rfl⟩
theorem finish_r (h1 : ¬ nI (r_X4_isComplete v i) = 0) (h2 : v.x.FR i 1 = 0) : s_X0_finishIfComplete v i j = vsend (vFR (vFC (s_X0_store v i j (nI 1) (v.x.FR i 4)) i 11 ((s_X0_store v i j (nI 1) (v.x.FR i 4)).x.FR i 4)) i 0 (-1)) (mkM (nI 4) (nI j) (nI i) (-1)) := by
  unfold s_X0_finishIfComplete
  exact (if_neg h1).trans ((if_pos h2).trans rfl)
theorem finish_w (h1 : ¬ nI (r_X4_isComplete v i) = 0) (h2 : ¬ v.x.FR i 1 = 0) : s_X0_finishIfComplete v i j = vsend (vFR (s_X0_store v i j (nI 3) (v.x.FR i 2)) i 0 (-1)) (mkM (nI 4) (nI j) (nI i) (-1)) := by
  unfold s_X0_finishIfComplete
  exact (if_neg h1).trans ((if_neg h2).trans rfl)
/-- what the completion of a request does -/
theorem fin_v (hc : CE v A R K S V W O H q) (hI : InvC R K S V W O H (allq q)) (hV : InvV N R S V W H (allq q)) (hP : PLQ q) (hi : i < 4) (hj : j < 16) (hr0 : R i 0 = (j : Int)) : ∃ N', SV (s_X0_finishIfComplete v i j) A N' ∧ eff v (s_X0_finishIfComplete v i j) N N' := by
  have c1 := hI.2.1 i hi
  unfold rqA at c1
  by_cases hf : R i 3 = 0 ∨ R i 6 ≠ R i 5
  · have e1 : s_X0_finishIfComplete v i j = v := by
      unfold s_X0_finishIfComplete
      rw [if_pos ((fin_iff hc).mpr hf)]
    rw [e1]
    exact ⟨N, ⟨R, K, S, V, W, O, H, q, hc, hI, hV, hP⟩, Or.inl ⟨fun _ _ _ => rfl, rfl⟩⟩
  · have h3 : R i 3 = 1 := by omega
    have h6 : R i 6 = R i 5 := Decidable.byContradiction fun z => hf (Or.inr z)
    have hn : ¬ nI (r_X4_isComplete v i) = 0 := fun e => hf ((fin_iff hc).mp e)
    have hl : (fl (O i) j).length ≤ 3 := by
      obtain ⟨o1, o2, o3, o4, o5⟩ := hI.2.2.2.2.2.1 i hi
      rw [hr0, flt_j, if_neg (by omega)] at o3
      omega
    have ho : kd (mkM (nI 4) (nI j) (nI i) (-1)) = 4 := rfl
    have rr : ∀ k n, n < 3 → k ≠ i → w2 R i 0 (-1) k n = R k n := fun k n _ e => w2_ni e
    rcases (show R i 1 = 0 ∨ R i 1 = 1 by omega) with h1 | h1
    · have hc1 : v.x.FR i 1 = 0 := i32_eq.mpr (by rw [hc.gR, h1]; rfl)
      rw [finish_r hn hc1]
      have k1 := hc.store (s := nI 1) (a := v.x.FR i 4) hi hj hl
      rw [t1, hc.gR] at k1
      have k2 := ((k1.sFC (i := i) (m := 11) (w := (s_X0_store v i j (nI 1) (v.x.FR i 4)).x.FR i 4) (by decide)).sFR (i := i) (m := 0) (w := -1)).snd (m := mkM (nI 4) (nI j) (nI i) (-1))
      rw [k1.gR, tm1] at k2
      have j1 := (T_fin (o := mkM (nI 4) (nI j) (nI i) (-1)) (s := 1) (v := R i 4) hi hj hI hr0 h3 h6 (Or.inl ⟨h1, rfl, rfl⟩) ho (tj hj) (nI_toInt (by omega)) tm1).eqK (K' := w2 K i 11 (R i 4)) (fun k => w2_nj (by decide)) (fun k => w2_nj (by decide)) (fun k => w2_nj (by decide))
      have j2 := (V_finR (o := mkM (nI 4) (nI j) (nI i) (-1)) hi hj hI hV hr0 h1 h3 ho).perm allq_send.symm
      have hN := (hV.2.2.2.2.2.2.1 i hi j hj hr0 h1 h3).1
      refine ⟨N, ⟨_, _, _, _, _, _, H, _, k2, j1.perm allq_send.symm, j2, hP.way⟩, Or.inr ⟨i, j, hi, hj, ?_, ?_, ?_, Or.inl ⟨?_, rfl, ?_, ?_⟩⟩⟩
      · rw [hc.2.1]
        exact hr0
      · rw [k2.2.1]
        exact w2_eq
      · intro k n h9 e
        rw [k2.2.1, hc.2.1]
        exact rr k n h9 e
      · rw [hc.2.1]
        exact h1
      · rw [k2.2.2.2.1]
        exact w2_eq
      · rw [k2.gK i 11 (by decide), w2_eq]
        exact hN
    · have hc1 : ¬ v.x.FR i 1 = 0 := fun e => by
        have z := i32_eq.mp e
        rw [hc.gR, h1] at z
        exact absurd z (by decide)
      rw [finish_w hn hc1]
      have k1 := hc.store (s := nI 3) (a := v.x.FR i 2) hi hj hl
      rw [t3, hc.gR] at k1
      have k2 := (k1.sFR (i := i) (m := 0) (w := -1)).snd (m := mkM (nI 4) (nI j) (nI i) (-1))
      rw [tm1] at k2
      have j1 := T_fin (o := mkM (nI 4) (nI j) (nI i) (-1)) (s := 3) (v := R i 2) hi hj hI hr0 h3 h6 (Or.inr ⟨h1, rfl, rfl⟩) ho (tj hj) (nI_toInt (by omega)) tm1
      have j2 := (V_finW (o := mkM (nI 4) (nI j) (nI i) (-1)) hi hj hI hV hr0 h1 h3 h6 ho).perm allq_send.symm
      refine ⟨vN N j (R i 2), ⟨_, _, _, _, _, _, H, _, k2, j1.perm allq_send.symm, j2, hP.way⟩, Or.inr ⟨i, j, hi, hj, ?_, ?_, ?_, Or.inr ⟨?_, ?_, ?_⟩⟩⟩
      · rw [hc.2.1]
        exact hr0
      · rw [k2.2.1]
        exact w2_eq
      · intro k n h9 e
        rw [k2.2.1, hc.2.1]
        exact rr k n h9 e
      · rw [hc.2.1]
        exact h1
      · rw [hc.2.1]
      · rw [k2.2.2.2.1]
        exact w2_eq
/-- with fields of a request changed that the law does not keep -/
theorem eff.from {u v v' : Vw} {N N' : Nat → Int} (h : eff v v' N N') (hq : ∀ k n, n < 3 → cR v k n = cR u k n) : eff u v' N N' := by
  rcases h with ⟨h1, h2⟩ | ⟨c, j, h1, h2, h3, h4, h5, h6⟩
  · exact Or.inl ⟨fun k n hn => (h1 k n hn).trans (hq k n hn), h2⟩
  · refine Or.inr ⟨c, j, h1, h2, (hq c 0 (by decide)).symm.trans h3, h4, fun k n hn e => (h5 k n hn e).trans (hq k n hn), ?_⟩
    rw [hq c 1 (by decide), hq c 2 (by decide)] at h6
    exact h6
end RECV
