/-! ===== class and model side by side: what a cache does with a message ===== -/
/-- the model completes a request for reading -/
def mFinR (x : St) (i : Nat) : St :=
  let x1 := x.setAM 2 (upd (x.AM 2) (16 * i + (nat (x.AM 9 i))) (nI 1))
  let x2 := x1.setAM 3 (upd (x1.AM 3) (16 * i + (nat (x.AM 9 i))) (x1.AM 13 i))
  let x7 := x2.setAM 8 (upd (x2.AM 8) i (x2.AM 13 i))
  let x8 := s_X6_use x7 i (nat (x.AM 9 i))
  let x9 := x8.setAM 9 (upd (x8.AM 9) i ((-1 : Int32)))
  let x10 := x9.setAM 12 (upd (x9.AM 12) i (vp_nar .boolean (nI 0)))
  let x11 := s_X6_send x10 (nI 4) (nI (nat (x.AM 9 i))) (nI i) ((-1 : Int32)) (nI 0) (nI 0) ((-1 : Int32))
  x11
def mFinW (x : St) (i : Nat) : St :=
  let x22 := x.setAM 2 (upd (x.AM 2) (16 * i + (nat (x.AM 9 i))) (nI 3))
  let x33 := x22.setAM 3 (upd (x22.AM 3) (16 * i + (nat (x.AM 9 i))) (x22.AM 11 i))
  let x34 := s_X6_use x33 i (nat (x.AM 9 i))
  let x35 := x34.setAM 9 (upd (x34.AM 9) i ((-1 : Int32)))
  let x36 := x35.setAM 12 (upd (x35.AM 12) i (vp_nar .boolean (nI 0)))
  let x37 := s_X6_send x36 (nI 4) (nI (nat (x.AM 9 i))) (nI i) ((-1 : Int32)) (nI 0) (nI 0) ((-1 : Int32))
  x37
section RECV
variable {v : Vw} {x A : St} {R K S V W : Nat → Nat → Int} {O : Nat → List Nat} {H : Nat → Nat → Int} {q : Nat → List M7} {i j T : Nat}
theorem complete_r (h12 : ¬ x.AM 12 i = 0) (h15 : x.AM 15 i = x.AM 14 i) (h10 : x.AM 10 i = 0) : s_X6_complete x i = mFinR x i := by
  unfold s_X6_complete mFinR
  exact (if_neg h12).trans ((if_pos h15).trans ((if_pos h10).trans ((if_pos h10).trans ((if_pos h10).trans rfl))))
theorem complete_w (h12 : ¬ x.AM 12 i = 0) (h15 : x.AM 15 i = x.AM 14 i) (h10 : ¬ x.AM 10 i = 0) : s_X6_complete x i = mFinW x i := by
  unfold s_X6_complete mFinW
  exact (if_neg h12).trans ((if_pos h15).trans ((if_neg h10).trans ((if_neg h10).trans ((if_neg h10).trans rfl))))
theorem MR.lat {w : Int32} (h : MR x T R K S V W O H q) : MR (x.setAM 8 (upd (x.AM 8) i w)) T R (w2 K i 11 w.toInt) S V W O H q := by
  obtain ⟨g1, g2, g3, g4, g5, g6, g7, g8⟩ := h
  refine ⟨fun k hk => ?_, g2, g3, g4, g5, g6, g7, g8⟩
  obtain ⟨q1, q2, q3, q4, q5, q6⟩ := g1 k hk
  have n9 : w2 K i 11 w.toInt k 9 = K k 9 := w2_nj (by decide)
  have n10 : w2 K i 11 w.toInt k 10 = K k 10 := w2_nj (by decide)
  have n12 : w2 K i 11 w.toInt k 12 = K k 12 := w2_nj (by decide)
  have n13 : w2 K i 11 w.toInt k 13 = K k 13 := w2_nj (by decide)
  rw [n9, n10, n12, n13]
  refine ⟨q1, q2, q3, q4, ?_, q6⟩
  show (upd (x.AM 8) i w k).toInt = _
  by_cases e : k = i
  · subst e
    rw [upd_eq, w2_eq]
  · rw [upd_ne e, w2_ni e]
    exact q5
theorem MR.cls (h : MR x T R K S V W O H q) : MR ((x.setAM 9 (upd (x.AM 9) i (-1))).setAM 12 (upd ((x.setAM 9 (upd (x.AM 9) i (-1))).AM 12) i (vp_nar .boolean (nI 0)))) T (w2 R i 0 (-1)) K S V W O H q := by
  obtain ⟨g1, g2, g3, g4, g5, g6, g7, g8⟩ := h
  have k1 : mA (x.AM 0) (x.AM 1) (x.AM 6) (x.AM 7) (x.AM 8) (upd (x.AM 9) i (-1)) (w2 R i 0 (-1)) K := by
    intro k hk
    obtain ⟨q1, q2, q3, q4, q5, q6⟩ := g1 k hk
    refine ⟨q1, q2, q3, q4, q5, ?_⟩
    by_cases e : k = i
    · subst e
      rw [upd_eq, w2_eq, tm1]
    · rw [upd_ne e, w2_ni e]
      exact q6
  have k2 : mB (x.AM 10) (x.AM 11) (upd (x.AM 12) i (vp_nar .boolean (nI 0))) (x.AM 13) (x.AM 14) (x.AM 15) (w2 R i 0 (-1)) := by
    intro k hk hr
    by_cases e : k = i
    · subst e
      exact (hr w2_eq).elim
    · rw [w2_ni e] at hr
      have z := g2 k hk hr
      rw [upd_ne e, w2_ni e, w2_ni e, w2_ni e, w2_ni e, w2_ni e, w2_ni e]
      exact z
  exact ⟨k1, k2, g3, g4, g5, g6, g7, g8⟩
theorem fin_iff (hc : CE v A R K S V W O H q) : nI (r_X4_isComplete v i) = 0 ↔ (R i 3 = 0 ∨ R i 6 ≠ R i 5) := by
  have e3 : v.x.FR i 3 = 0 ↔ R i 3 = 0 := by
    rw [i32_eq, hc.gR]
    exact Iff.rfl
  have e6 : v.x.FR i 6 = v.x.FR i 5 ↔ R i 6 = R i 5 := by rw [i32_eq, hc.gR, hc.gR]
  unfold r_X4_isComplete
  by_cases h3 : R i 3 = 0
  · rw [if_pos (e3.mpr h3)]
    exact ⟨fun _ => Or.inl h3, fun _ => rfl⟩
  · rw [if_neg (fun e => h3 (e3.mp e))]
    by_cases h6 : R i 6 = R i 5
    · rw [if_pos (e6.mpr h6)]
      exact ⟨fun e => absurd e (by decide), fun e => (e.elim h3 (fun z => z h6)).elim⟩
    · rw [if_neg (fun e => h6 (e6.mp e))]
      exact ⟨fun _ => Or.inr h6, fun _ => rfl⟩
theorem finish_r (h1 : ¬ nI (r_X4_isComplete v i) = 0) (h2 : v.x.FR i 1 = 0) : s_X0_finishIfComplete v i j = vsend (vFR (vFC (s_X0_store v i j (nI 1) (v.x.FR i 4)) i 11 ((s_X0_store v i j (nI 1) (v.x.FR i 4)).x.FR i 4)) i 0 (-1)) (mkM (nI 4) (nI j) (nI i) (-1)) := by
  unfold s_X0_finishIfComplete
  exact (if_neg h1).trans ((if_pos h2).trans rfl)
theorem finish_w (h1 : ¬ nI (r_X4_isComplete v i) = 0) (h2 : ¬ v.x.FR i 1 = 0) : s_X0_finishIfComplete v i j = vsend (vFR (s_X0_store v i j (nI 3) (v.x.FR i 2)) i 0 (-1)) (mkM (nI 4) (nI j) (nI i) (-1)) := by
  unfold s_X0_finishIfComplete
  exact (if_neg h1).trans ((if_neg h2).trans rfl)
theorem fin_sim (hT : T < 2 ^ 31 - 1) (hc : CE v A R K S V W O H q) (hI : InvC R K S V W O H (allq q)) (hM : MR x T R K S V W O H q) (hP : PLQ q) (hi : i < 4) (hj : j < 16) (hr0 : R i 0 = (j : Int)) : SM (s_X0_finishIfComplete v i j) (s_X6_complete x i) A (T + 1) := by
  have hb := hM.2.1 i hi (by omega)
  have h9 : nat (x.AM 9 i) = j := by
    have : x.AM 9 i = nI j := i32_eq.mpr (by rw [(hM.1 i hi).2.2.2.2.2, hr0, tj hj])
    rw [this, nat_nI (by omega)]
  have c1 := hI.2.1 i hi
  unfold rqA at c1
  have hlen := hI.len
  have hlw : (q 16).length ≤ 44 := by
    unfold allq at hlen
    rw [List.length_append] at hlen
    omega
  have e12 : x.AM 12 i = 0 ↔ R i 3 = 0 := by
    rw [i32_eq, hb.2.2.1]
    exact Iff.rfl
  by_cases hf : R i 3 = 0 ∨ R i 6 ≠ R i 5
  · have e1 : s_X0_finishIfComplete v i j = v := by
      unfold s_X0_finishIfComplete
      rw [if_pos ((fin_iff hc).mpr hf)]
    have e2 : s_X6_complete x i = x := by
      unfold s_X6_complete
      by_cases h3 : R i 3 = 0
      · exact if_pos (e12.mpr h3)
      · have h6 := hf.resolve_left h3
        exact (if_neg (fun e => h3 (e12.mp e))).trans (if_neg (fun e => h6 (by
          have z := i32_eq.mp e
          rw [hb.2.2.2.2, (hb.2.2.2.1 (by omega)).2] at z
          exact z)))
    rw [e1, e2]
    exact ⟨R, K, S, V, W, O, H, q, hc, hI, hM.mono (Nat.le_succ _), hP⟩
  · have h3 : R i 3 = 1 := by omega
    have h6 : R i 6 = R i 5 := Decidable.byContradiction fun z => hf (Or.inr z)
    have hn : ¬ nI (r_X4_isComplete v i) = 0 := fun e => hf ((fin_iff hc).mp e)
    have hm12 : ¬ x.AM 12 i = 0 := fun e => by have := e12.mp e; omega
    have hm15 : x.AM 15 i = x.AM 14 i := i32_eq.mpr (by rw [hb.2.2.2.2, (hb.2.2.2.1 h3).2, h6])
    have hl : (fl (O i) j).length ≤ 3 := by
      obtain ⟨o1, o2, o3, o4, o5⟩ := hI.2.2.2.2.2.1 i hi
      rw [hr0, flt_j, if_neg (by omega)] at o3
      omega
    have ho : kd (mkM (nI 4) (nI j) (nI i) (-1)) = 4 := rfl
    have hrow : nI 4 = (mkM (nI 4) (nI j) (nI i) (-1)) 0 ∧ nI j = (mkM (nI 4) (nI j) (nI i) (-1)) 1 ∧ nI i = (mkM (nI 4) (nI j) (nI i) (-1)) 2 ∧ (-1 : Int32) = (mkM (nI 4) (nI j) (nI i) (-1)) 3 ∧ ((kd (mkM (nI 4) (nI j) (nI i) (-1)) = 3 ∨ kd (mkM (nI 4) (nI j) (nI i) (-1)) = 5) → nI 0 = (mkM (nI 4) (nI j) (nI i) (-1)) 4) ∧ nI 0 = (mkM (nI 4) (nI j) (nI i) (-1)) 5 ∧ (-1 : Int32) = (mkM (nI 4) (nI j) (nI i) (-1)) 6 := ⟨rfl, rfl, rfl, rfl, fun e => absurd e (by rw [ho]; decide), rfl, rfl⟩
    rcases (show R i 1 = 0 ∨ R i 1 = 1 by omega) with h1 | h1
    · have hc1 : v.x.FR i 1 = 0 := i32_eq.mpr (by rw [hc.gR, h1]; rfl)
      have hm10 : x.AM 10 i = 0 := i32_eq.mpr (by rw [hb.1, h1]; rfl)
      rw [finish_r hn hc1, complete_r hm12 hm15 hm10]
      have a13 : (x.AM 13 i).toInt = R i 4 := (hb.2.2.2.1 h3).1 h1
      have k1 := hc.store (s := nI 1) (a := v.x.FR i 4) hi hj hl
      rw [t1, hc.gR] at k1
      have k2 := ((k1.sFC (i := i) (m := 11) (w := (s_X0_store v i j (nI 1) (v.x.FR i 4)).x.FR i 4) (by decide)).sFR (i := i) (m := 0) (w := -1)).snd (m := mkM (nI 4) (nI j) (nI i) (-1))
      rw [k1.gR, tm1] at k2
      have j1 := (T_fin (o := mkM (nI 4) (nI j) (nI i) (-1)) (s := 1) (v := R i 4) hi hj hI hr0 h3 h6 (Or.inl ⟨h1, rfl, rfl⟩) ho (tj hj) (nI_toInt (by omega)) tm1).eqK (K' := w2 K i 11 (R i 4)) (fun k => w2_nj (by decide)) (fun k => w2_nj (by decide)) (fun k => w2_nj (by decide))
      have m1 := hM.store (i := i) (j := j) (s := nI 1) (v := x.AM 13 i) hj
      rw [t1, a13] at m1
      have m2 := m1.lat (i := i) (w := x.AM 13 i)
      rw [a13] at m2
      have m3 := MR.send (MR.cls (i := i) (m2.use (i := i) (j := j) hj hT)) (by omega) hrow
      refine ⟨_, _, _, _, _, _, H, _, k2, j1.perm allq_send.symm, ?_, hP.way⟩
      unfold mFinR
      rw [h9]
      exact m3
    · have hc1 : ¬ v.x.FR i 1 = 0 := fun e => by
        have z := i32_eq.mp e
        rw [hc.gR, h1] at z
        exact absurd z (by decide)
      have hm10 : ¬ x.AM 10 i = 0 := fun e => by
        have z := i32_eq.mp e
        rw [hb.1, h1] at z
        exact absurd z (by decide)
      rw [finish_w hn hc1, complete_w hm12 hm15 hm10]
      have a11 : (x.AM 11 i).toInt = R i 2 := hb.2.1 h1
      have k1 := hc.store (s := nI 3) (a := v.x.FR i 2) hi hj hl
      rw [t3, hc.gR] at k1
      have k2 := (k1.sFR (i := i) (m := 0) (w := -1)).snd (m := mkM (nI 4) (nI j) (nI i) (-1))
      rw [tm1] at k2
      have j1 := T_fin (o := mkM (nI 4) (nI j) (nI i) (-1)) (s := 3) (v := R i 2) hi hj hI hr0 h3 h6 (Or.inr ⟨h1, rfl, rfl⟩) ho (tj hj) (nI_toInt (by omega)) tm1
      have m1 := hM.store (i := i) (j := j) (s := nI 3) (v := x.AM 11 i) hj
      rw [t3, a11] at m1
      have m3 := MR.send (MR.cls (i := i) (m1.use (i := i) (j := j) hj hT)) (by omega) hrow
      refine ⟨_, _, _, _, _, _, H, _, k2, j1.perm allq_send.symm, ?_, hP.way⟩
      unfold mFinW
      rw [h9]
      exact m3
end RECV
