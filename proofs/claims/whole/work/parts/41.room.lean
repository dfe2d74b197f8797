section ROOM
variable {v : Vw} {x A : St} {R K S V W : Nat → Nat → Int} {O : Nat → List Nat} {H : Nat → Nat → Int} {q : Nat → List M7} {i j T : Nat}
theorem inuse_iff (hc : CE v A R K S V W O H q) (hi : i < 4) : nI (r_X0_isInUse v i) = 0 ↔ (O i).length = 0 ∧ K i 8 ≤ 0 ∧ R i 0 = -1 := by
  obtain ⟨g1, g2, g3⟩ := hc.gO hi
  have e7 : 0 < v.x.FC i 7 ↔ 0 < (O i).length := by
    rw [Int32.lt_iff_toInt_lt, g1, nI_toInt (by omega)]
    show (0 : Int) < _ ↔ _
    omega
  have e8 : 0 < v.x.FC i 8 ↔ 0 < K i 8 := by
    rw [Int32.lt_iff_toInt_lt, hc.gK i 8 (by decide)]
    exact Iff.rfl
  have e0 : v.x.FR i 0 = -1 ↔ R i 0 = -1 := by rw [i32_eq, hc.gR, tm1]
  unfold r_X0_isInUse
  by_cases h7 : 0 < (O i).length
  · rw [if_pos (e7.mpr h7)]
    exact ⟨fun e => absurd e (by decide), fun e => by omega⟩
  · rw [if_neg (fun e => h7 (e7.mp e))]
    by_cases h8 : 0 < K i 8
    · rw [if_pos (e8.mpr h8)]
      exact ⟨fun e => absurd e (by decide), fun e => by omega⟩
    · rw [if_neg (fun e => h8 (e8.mp e)), b01, e0]
      exact ⟨fun e => ⟨by omega, by omega, e⟩, fun e => e.2.2⟩
theorem mrm_iff (hI : InvC R K S V W O H (allq q)) (hM : MR x T R K S V W O H q) (hi : i < 4) : (0 < nI (r_X6_linesIn x i) ↔ 0 < (O i).length) ∧ (0 < nI (r_X6_victimsIn x i) ↔ 0 < K i 8) ∧ (x.AM 9 i = -1 ↔ R i 0 = -1) := by
  have h5 := hI.2.2.2.2.2.1 i hi
  have k8 := hI.2.2.2.2.1 i hi
  have hl := lines_eq hM.2.2.1 hi (sN0 hI hi) h5
  have hlen : (O i).length ≤ 16 := by
    have := (ord_perm h5).length_eq
    have h2 := List.length_filter_le (fun j => decide (S i j ≠ 0)) (List.range 16)
    rw [List.length_range] at h2
    omega
  have e : r_X6_victimsIn x i = (List.range 16).countP (fun j => decide (W i j ≠ -1)) := vic_lp hM.2.2.1 hi (fun j hj => (hI.2.2.2.1 i hi j hj).1) 16 (Nat.le_refl _)
  refine ⟨?_, ?_, by rw [i32_eq, (hM.1 i hi).2.2.2.2.2, tm1]⟩
  · rw [Int32.lt_iff_toInt_lt, hl, nI_toInt (by omega)]
    show (0 : Int) < _ ↔ _
    omega
  · rw [Int32.lt_iff_toInt_lt, e, nI_toInt (by omega), ← k8.1]
    exact Iff.rfl
theorem room_arg {w b : Nat} (hw1 : 1 ≤ w) (hw : w ≤ 4) (hb : b ≤ 2) : ¬ nI w < nI 1 ∧ ¬ nI 4 < nI w ∧ ¬ nI b < 0 ∧ nI b ≤ nI 2 := ⟨nI_nlt hw1 (by omega), nI_nlt hw (by omega), nI_pos (by omega), nI_le hb (by omega)⟩
/-- a call setRoom that is allowed -/
theorem room_sim {w b : Nat} (h : SM v x A T) (hi : i < 4) (hw1 : 1 ≤ w) (hw : w ≤ 4) (hb : b ≤ 2) (hu : nI (r_X0_isInUse v i) = 0) : SM (s_X5_setRoom v i w b) (s_X6_setRoom_ok x i (nI w) (nI b)) A T ∧ (s_X6_setRoom_ok x i (nI w) (nI b)).FM 0 = nI 0 ∧ r_X6_setRoom_ok x i (nI w) (nI b) = r_X5_setRoom v i w b := by
  obtain ⟨R, K, S, V, W, O, H, q, hc, hI, hM, hP⟩ := h
  have hM0 : MR (x.setFM 0 (nI 0)) T R K S V W O H q := hM.fm0
  obtain ⟨a1, a2, a3, a4⟩ := room_arg hw1 hw hb
  obtain ⟨u1, u2, u3⟩ := (inuse_iff hc hi).mp hu
  obtain ⟨m1, m2, m3⟩ := mrm_iff hI hM0 hi
  have n1 : ¬ 0 < nI (r_X6_linesIn (x.setFM 0 (nI 0)) i) := fun e => by have := m1.mp e; omega
  have n2 : ¬ 0 < nI (r_X6_victimsIn (x.setFM 0 (nI 0)) i) := fun e => by have := m2.mp e; omega
  have k8 := hI.2.2.2.2.1 i hi
  have e9 : (x.setFM 0 (nI 0)).AM 0 i = v.x.FC i 9 := i32_eq.mpr (by rw [(hM0.1 i hi).1, hc.gK i 9 (by decide)])
  have e10 : (x.setFM 0 (nI 0)).AM 1 i = v.x.FC i 10 := i32_eq.mpr (by rw [(hM0.1 i hi).2.1, hc.gK i 10 (by decide)])
  have cS : s_X5_setRoom v i w b = vFC (vFC v i 9 (nI w)) i 10 (nI b) := by
    unfold s_X5_setRoom
    split
    · split <;> rfl
    · rfl
  have cM : s_X6_setRoom_ok x i (nI w) (nI b) = ((x.setFM 0 (nI 0)).setAM 0 (upd (x.AM 0) i (nI w))).setAM 1 (upd (((x.setFM 0 (nI 0)).setAM 0 (upd (x.AM 0) i (nI w))).AM 1) i (nI b)) := by
    unfold s_X6_setRoom_ok
    dsimp only
    rw [if_neg a1, if_neg a2, if_neg a3, if_pos a4, if_neg n1, if_neg n2, if_pos (m3.mpr u3)]
    split
    · split <;> rfl
    · rfl
  have tw : (nI w).toInt = (w : Int) := nI_toInt (by omega)
  have tb : (nI b).toInt = (b : Int) := nI_toInt (by omega)
  have c1 := (hc.sFC (i := i) (m := 9) (w := nI w) (by decide)).sFC (i := i) (m := 10) (w := nI b) (by decide)
  rw [tw, tb] at c1
  have i1 := T_room (c := i) (w := (w : Int)) (b := (b : Int)) hI (fun _ => List.length_eq_zero_iff.mp u1) (by omega) u3 (by omega) (by omega) (by omega) (by omega)
  have m4 : MR (((x.setFM 0 (nI 0)).setAM 0 (upd (x.AM 0) i (nI w))).setAM 1 (upd (((x.setFM 0 (nI 0)).setAM 0 (upd (x.AM 0) i (nI w))).AM 1) i (nI b))) T R (w2 (w2 K i 9 (w : Int)) i 10 (b : Int)) S V W O H q := by
    obtain ⟨g1, g2, g3, g4, g5, g6, g7, g8⟩ := hM0
    refine ⟨fun k hk => ?_, g2, g3, g4, g5, g6, g7, g8⟩
    obtain ⟨q1, q2, q3, q4, q5, q6⟩ := g1 k hk
    have n12 : w2 (w2 K i 9 (w : Int)) i 10 (b : Int) k 12 = K k 12 := by rw [w2_nj (by decide), w2_nj (by decide)]
    have n13 : w2 (w2 K i 9 (w : Int)) i 10 (b : Int) k 13 = K k 13 := by rw [w2_nj (by decide), w2_nj (by decide)]
    have n11 : w2 (w2 K i 9 (w : Int)) i 10 (b : Int) k 11 = K k 11 := by rw [w2_nj (by decide), w2_nj (by decide)]
    rw [n12, n13, n11]
    refine ⟨?_, ?_, q3, q4, q5, q6⟩
    · show (upd (x.AM 0) i (nI w) k).toInt = _
      rw [w2_nj (by decide)]
      by_cases e : k = i
      · subst e
        rw [upd_eq, w2_eq, tw]
      · rw [upd_ne e, w2_ni e]
        exact q1
    · show (upd (x.AM 1) i (nI b) k).toInt = _
      by_cases e : k = i
      · subst e
        rw [upd_eq, w2_eq, tb]
      · rw [upd_ne e, w2_ni e, w2_ni e]
        exact q2
  refine ⟨?_, by rw [cM]; rfl, ?_⟩
  · rw [cS, cM]
    exact ⟨_, _, _, _, _, _, _, q, c1, i1, m4, hP⟩
  · unfold r_X6_setRoom_ok r_X5_setRoom
    dsimp only
    rw [if_neg a1, if_neg a2, if_neg a3, if_pos a4, if_neg n1, if_neg n2, if_pos (m3.mpr u3), e9, e10]
/-- a call setRoom of a cache in use -/
theorem room_s {w b : Nat} (h : SM v x A T) (hi : i < 4) (hw1 : 1 ≤ w) (hw : w ≤ 4) (hb : b ≤ 2) (hu : ¬ nI (r_X0_isInUse v i) = 0) : SM v (s_X6_setRoom_ok x i (nI w) (nI b)) A T ∧ (s_X6_setRoom_ok x i (nI w) (nI b)).FM 0 = nI 3 := by
  obtain ⟨R, K, S, V, W, O, H, q, hc, hI, hM, hP⟩ := h
  have hM0 : MR (x.setFM 0 (nI 0)) T R K S V W O H q := hM.fm0
  have hM2 : MR (s_X6_failed (x.setFM 0 (nI 0)) (nI 3)) T R K S V W O H q := hM
  obtain ⟨a1, a2, a3, a4⟩ := room_arg hw1 hw hb
  rw [inuse_iff hc hi] at hu
  obtain ⟨m1, m2, m3⟩ := mrm_iff hI hM0 hi
  have key : s_X6_setRoom_ok x i (nI w) (nI b) = s_X6_failed (x.setFM 0 (nI 0)) (nI 3) := by
    unfold s_X6_setRoom_ok
    dsimp only
    rw [if_neg a1, if_neg a2, if_neg a3, if_pos a4]
    by_cases h1 : 0 < (O i).length
    · rw [if_pos (m1.mpr h1)]
    · rw [if_neg (fun e => h1 (m1.mp e))]
      by_cases h2 : 0 < K i 8
      · rw [if_pos (m2.mpr h2)]
      · rw [if_neg (fun e => h2 (m2.mp e)), if_neg (fun e => hu ⟨by omega, by omega, m3.mp e⟩)]
  rw [key]
  exact ⟨⟨R, K, S, V, W, O, H, q, hc, hI, hM2, hP⟩, rfl⟩
/-- a call setRoom with wrong numbers -/
theorem room_b {a b : Int32} (h : SM v x A T) (hw : a < nI 1 ∨ nI 4 < a ∨ b < 0 ∨ nI 2 < b) : SM v (s_X6_setRoom_ok x i a b) A T ∧ (s_X6_setRoom_ok x i a b).FM 0 = nI 2 := by
  obtain ⟨R, K, S, V, W, O, H, q, hc, hI, hM, hP⟩ := h
  have hM2 : MR (s_X6_failed (x.setFM 0 (nI 0)) (nI 2)) T R K S V W O H q := hM
  have key : s_X6_setRoom_ok x i a b = s_X6_failed (x.setFM 0 (nI 0)) (nI 2) := by
    unfold s_X6_setRoom_ok
    dsimp only
    by_cases h1 : a < nI 1
    · rw [if_pos h1]
    rw [if_neg h1]
    by_cases h2 : nI 4 < a
    · rw [if_pos h2]
    rw [if_neg h2]
    by_cases h3 : b < 0
    · rw [if_pos h3]
    have h4 := ((hw.resolve_left h1).resolve_left h2).resolve_left h3
    rw [if_neg h3, if_neg (fun e => by
      rw [Int32.lt_iff_toInt_lt] at h4
      rw [Int32.le_iff_toInt_le] at e
      omega)]
  rw [key]
  exact ⟨⟨R, K, S, V, W, O, H, q, hc, hI, hM2, hP⟩, rfl⟩
end ROOM
