/-! ===== setRoom ===== -/
section ROOM
variable {v : Vw} {A : St} {R K S V W : Nat → Nat → Int} {O : Nat → List Nat} {H : Nat → Nat → Int} {N : Nat → Int} {q : Nat → List M7} {i j c d : Nat} {m : M7}
theorem inuse_iff (hc : CE v A R K S V W O H q) (hi : i < 4) : nI (r_X0_isInUse v i) = 0 ↔ (O i).length = 0 ∧ K i 8 ≤ 0 ∧ R i 0 = -1 := by
  obtain ⟨g1, g2, g3⟩ := hc.gO hi
  have e7 : 0 < v.x.FC i 7 ↔ 0 < (O i).length := by
    rw [Int32.lt_iff_toInt_lt, g1, nI_toInt (by omega)]
    show (0 : Int) < _ ↔ _
    omega
  have e8 : 0 < v.x.FC i 8 ↔ 0 < K i 8 := by
    rw [Int32.lt_iff_toInt_lt, hc.gK i 8 (by decide)]
    exact Iff.rfl
  have e0 : v.x.FR i 0 = -1 ↔ R i 0 = -1 := by rw [i32_eq, hc.gR, tm1]
  unfold r_X0_isInUse
  by_cases h7 : 0 < (O i).length
  · rw [if_pos (e7.mpr h7)]
    exact ⟨fun e => absurd e (by decide), fun e => by omega⟩
  · rw [if_neg (fun e => h7 (e7.mp e))]
    by_cases h8 : 0 < K i 8
    · rw [if_pos (e8.mpr h8)]
      exact ⟨fun e => absurd e (by decide), fun e => by omega⟩
    · rw [if_neg (fun e => h8 (e8.mp e)), b01, e0]
      exact ⟨fun e => ⟨by omega, by omega, e⟩, fun e => e.2.2⟩
/-- a call setRoom that is allowed -/
theorem room_v {w b : Nat} (h : SV v A N) (hi : i < 4) (hw1 : 1 ≤ w) (hw : w ≤ 4) (hb : b ≤ 2) (hu : nI (r_X0_isInUse v i) = 0) : SV (s_X5_setRoom v i w b) A N ∧ rqE v (s_X5_setRoom v i w b) := by
  obtain ⟨R, K, S, V, W, O, H, q, hc, hI, hV, hP⟩ := h
  obtain ⟨u1, u2, u3⟩ := (inuse_iff hc hi).mp hu
  have k8 := hI.2.2.2.2.1 i hi
  have cS : s_X5_setRoom v i w b = vFC (vFC v i 9 (nI w)) i 10 (nI b) := by
    unfold s_X5_setRoom
    split
    · split <;> rfl
    · rfl
  have tw : (nI w).toInt = (w : Int) := nI_toInt (by omega)
  have tb : (nI b).toInt = (b : Int) := nI_toInt (by omega)
  have c1 := (hc.sFC (i := i) (m := 9) (w := nI w) (by decide)).sFC (i := i) (m := 10) (w := nI b) (by decide)
  rw [tw, tb] at c1
  have i1 := T_room (c := i) (w := (w : Int)) (b := (b : Int)) hI (fun _ => List.length_eq_zero_iff.mp u1) (by omega) u3 (by omega) (by omega) (by omega) (by omega)
  rw [cS]
  refine ⟨⟨_, _, _, _, _, _, _, q, c1, i1, hV, hP⟩, ?_⟩
  intro k n _
  rw [c1.2.1, hc.2.1]
end ROOM
