/-! ===== class and model side by side: a home processes a message ===== -/
theorem va_up2 {α : Type} {f : Nat → α} {k : Nat} {a b : α} : va_up (va_up f k a) k b = va_up f k b := by
  funext n
  unfold va_up
  split <;> rfl
/-- the sharers that are told, as the class counts them -/
def ob (s : Int32) (c : Int32) (o : Int32) : Int32 := if o = -1 then s &&& (((nI 1) <<< (c &&& 31)) ^^^ (-1)) else (s &&& (((nI 1) <<< (c &&& 31)) ^^^ (-1))) &&& (((nI 1) <<< (o &&& 31)) ^^^ (-1))
def bset (b : Int32) (a : Nat) : Bool := decide (((b >>> ((nI a) &&& 31)) &&& (nI 1)) = (nI 1))
def ivs (b : Int32) (j : Nat) (r : Int32) (n : Nat) : List M7 := ((List.range n).filter (bset b)).map (fun a => va_up (mkM (nI 10) (nI j) (-1) (nI a)) 6 r)
theorem ivs_succ {b : Int32} {j : Nat} {r : Int32} {n : Nat} : ivs b j r (n + 1) = if ((b >>> ((nI n) &&& 31)) &&& (nI 1)) = (nI 1) then ivs b j r n ++ [va_up (mkM (nI 10) (nI j) (-1) (nI n)) 6 r] else ivs b j r n := by
  unfold ivs
  rw [List.range_succ, List.filter_append, List.map_append]
  by_cases h : ((b >>> ((nI n) &&& 31)) &&& (nI 1)) = (nI 1)
  · rw [if_pos h, List.filter_cons_of_pos (by unfold bset; exact decide_eq_true h)]
    rfl
  · rw [if_neg h, List.filter_cons_of_neg (by unfold bset; simpa using h)]
    simp
theorem ivs_len {b : Int32} {j : Nat} {r : Int32} {n : Nat} : (ivs b j r n).length ≤ n := by
  unfold ivs
  rw [List.length_map]
  have := List.length_filter_le (bset b) (List.range n)
  rw [List.length_range] at this
  exact this
theorem ivs_mem {b : Int32} {j : Nat} {r : Int32} {n : Nat} (hn : n ≤ 4) (hj : j < 16) : ∀ m ∈ ivs b j r n, kd m = 10 ∧ ln m = (j : Int) ∧ rq m = r.toInt ∧ 0 ≤ tt m ∧ tt m < 4 := by
  intro m hm
  unfold ivs at hm
  obtain ⟨a, ha, rfl⟩ := List.mem_map.mp hm
  have ha2 := List.mem_range.mp (List.mem_filter.mp ha).1
  have e : tt (va_up (mkM (nI 10) (nI j) (-1) (nI a)) 6 r) = (a : Int) := nI_toInt (n := a) (by omega)
  exact ⟨rfl, tj hj, rfl, by omega, by omega⟩
set_option maxRecDepth 100000 in
theorem bits_tab : ∀ s : Fin 16, ∀ c : Fin 4, ∀ o : Fin 5, bitc (ob (nI s) (nI c) (if o.val = 4 then -1 else nI o)) = nI ((List.range 4).filter (bset (ob (nI s) (nI c) (if o.val = 4 then -1 else nI o)))).length ∧ ∀ a : Fin 4, ((((ob (nI s) (nI c) (if o.val = 4 then -1 else nI o)) >>> ((nI a) &&& 31)) &&& (nI 1)) = (nI 1)) ↔ (¬ (((nI s) >>> ((nI a) &&& 31)) &&& (nI 1)) = 0 ∧ ¬ nI a = nI c ∧ ¬ nI a = (if o.val = 4 then -1 else nI o)) := by decide +kernel
theorem sh_tab : ∀ s : Fin 16, ∀ c : Fin 4, (0 ≤ ((nI s) ||| ((nI 1) <<< ((nI c) &&& 31))).toInt ∧ ((nI s) ||| ((nI 1) <<< ((nI c) &&& 31))).toInt < 16) ∧ (0 ≤ ((nI s) &&& (((nI 1) <<< ((nI c) &&& 31)) ^^^ (-1))).toInt ∧ ((nI s) &&& (((nI 1) <<< ((nI c) &&& 31)) ^^^ (-1))).toInt < 16) := by decide +kernel
theorem isum_upd {f g : Nat → Int32} {j : Nat} {w : Int32} (h1 : g j = f j + w) (h2 : ∀ k, k ≠ j → g k = f k) : ∀ n, isum g n = if j < n then isum f n + w else isum f n := by
  intro n
  induction n with
  | zero => rfl
  | succ n ih =>
    unfold isum
    rw [ih]
    by_cases e : n = j
    · subst e
      rw [if_neg (Nat.lt_irrefl _), if_pos (Nat.lt_succ_self _), h1, Int32.add_assoc]
    · rw [h2 n e]
      by_cases hl : j < n
      · rw [if_pos hl, if_pos (by omega), Int32.add_assoc, Int32.add_comm w, ← Int32.add_assoc]
      · rw [if_neg hl, if_neg (by omega)]
section PROC
variable {v : Vw} {x y A : St} {R K S V W : Nat → Nat → Int} {O : Nat → List Nat} {H : Nat → Nat → Int} {q : Nat → List M7} {i j T c : Nat} {m : M7} {b r : Int32}
/-- changes of the homes' rows, as the model has them -/
theorem MR.setH {H' : Nat → Nat → Int} (h : MR x T R K S V W O H q) (hA : ∀ r, (r < 16 ∨ 20 ≤ r) → y.AM r = x.AM r) (h1 : y.FM 1 = x.FM 1) (h4 : y.FM 4 = x.FM 4) (hW : mW (y.FM 2) (y.FM 3) H')
    (hH : ∀ k, k < 16 → (y.AM 16 k).toInt = H' k 3 ∧ (y.AM 17 k).toInt = H' k 4 ∧ (y.AM 18 k).toInt = H' k 5 ∧ (y.AM 19 k).toInt = H' k 6) : MR y T R K S V W O H' q := by
  obtain ⟨g1, g2, g3, g4, g5, g6, g7, g8⟩ := h
  unfold MR
  rw [hA 0 (by decide), hA 1 (by decide), hA 2 (by decide), hA 3 (by decide), hA 4 (by decide), hA 5 (by decide), hA 6 (by decide), hA 7 (by decide), hA 8 (by decide), hA 9 (by decide), hA 10 (by decide), hA 11 (by decide), hA 12 (by decide), hA 13 (by decide), hA 14 (by decide), hA 15 (by decide), hA 20 (by decide), hA 21 (by decide), hA 22 (by decide), h1, h4]
  refine ⟨g1, g2, g3, g4, fun k hk => ?_, hW, g7, g8⟩
  obtain ⟨z1, z2, z3, z4⟩ := hH k hk
  exact ⟨z1, z2, z3, z4, (g5 k hk).2.2.2.2⟩
theorem MR.mW (h : MR x T R K S V W O H q) : mW (x.FM 2) (x.FM 3) H := h.2.2.2.2.2.1
theorem mW.congr {f2 f3 : Int32} {H' : Nat → Nat → Int} (h : mW f2 f3 H) (e7 : ∀ k, H' k 7 = H k 7) (e8 : ∀ k, H' k 8 = H k 8) : mW f2 f3 H' := by
  unfold _root_.Jvm.Pilot.CCacheDirectoryLaw_law_r9039_1049c9.mW at h ⊢
  simp only [e7, e8]
  exact h
/-- the class tells the sharers -/
theorem cinv (hc : CE v A R K S V W O H q) (hb : oth v j r = b) : ∀ n, CE (lp_X1_processWrite_32 v j r v n) A R K S V W O H (va_up q 16 (q 16 ++ ivs b j r n)) := by
  intro n
  induction n with
  | zero =>
    have : va_up q 16 (q 16 ++ ivs b j r 0) = q := by
      funext k
      unfold va_up ivs
      split
      · rename_i e
        rw [e]
        simp
      · rfl
    rw [this]
    exact hc
  | succ n ih =>
    unfold lp_X1_processWrite_32
    rw [ivs_succ, hb]
    by_cases h : ((b >>> ((nI n) &&& 31)) &&& (nI 1)) = (nI 1)
    · rw [if_pos h, if_pos h]
      have c1 := ih.snd (m := va_up (mkM (nI 10) (nI j) (-1) (nI n)) 6 r)
      rw [va_up2, va_up_self, List.append_assoc] at c1
      exact c1
    · rw [if_neg h, if_neg h]
      exact ih
/-- the model tells the sharers -/
theorem minv (hM : MR y T R K S V W O H q) (hq : (q 16).length ≤ 44) (hb : ∀ n, n < 4 → (((b >>> ((nI n) &&& 31)) &&& (nI 1)) = (nI 1) ↔ (¬ (((y.AM 18 j) >>> ((nI n) &&& 31)) &&& (nI 1)) = 0 ∧ ¬ nI n = r ∧ ¬ nI n = x.AM 17 j))) : ∀ n, n ≤ 4 → MR (lp_X6_process_163 x j r 0 y n).2 T R K S V W O H (va_up q 16 (q 16 ++ ivs b j r n)) ∧ (lp_X6_process_163 x j r 0 y n).1 = (ivs b j r n).length ∧ (lp_X6_process_163 x j r 0 y n).2.AM 18 = y.AM 18 ∧ (lp_X6_process_163 x j r 0 y n).2.AM 23 = y.AM 23 ∧ (lp_X6_process_163 x j r 0 y n).2.FM 0 = y.FM 0 := by
  intro n
  induction n with
  | zero =>
    intro _
    have : va_up q 16 (q 16 ++ ivs b j r 0) = q := by
      funext k
      unfold va_up ivs
      split
      · rename_i e
        rw [e]
        simp
      · rfl
    rw [this]
    exact ⟨hM, rfl, rfl, rfl, rfl⟩
  | succ n ih =>
    intro hn
    obtain ⟨i1, i2, i3, i5, i4⟩ := ih (by omega)
    have hbn := hb n (by omega)
    unfold lp_X6_process_163
    rw [ivs_succ, i3]
    by_cases h1 : (((y.AM 18 j) >>> ((nI n) &&& 31)) &&& (nI 1)) = 0
    · rw [if_pos h1, if_neg (fun e => (hbn.mp e).1 h1)]
      exact ⟨i1, i2, i3, i5, i4⟩
    · rw [if_neg h1]
      by_cases h2 : nI n = r
      · rw [if_pos h2, if_neg (fun e => (hbn.mp e).2.1 h2)]
        exact ⟨i1, i2, i3, i5, i4⟩
      · rw [if_neg h2]
        by_cases h3 : nI n = x.AM 17 j
        · rw [if_pos h3, if_neg (fun e => (hbn.mp e).2.2 h3)]
          exact ⟨i1, i2, i3, i5, i4⟩
        · rw [if_neg h3, if_pos (hbn.mpr ⟨h1, h2, h3⟩)]
          have hl := ivs_len (b := b) (j := j) (r := r) (n := n)
          have ho : kd (va_up (mkM (nI 10) (nI j) (-1) (nI n)) 6 r) = 10 := rfl
          have m1 := MR.send (m := va_up (mkM (nI 10) (nI j) (-1) (nI n)) 6 r) (a1 := nI 10) (a2 := nI j) (a3 := -1) (a4 := nI n) (a5 := nI 0) (a6 := nI 0) (a7 := r) i1 (by rw [va_up_self, List.length_append]; omega) ⟨rfl, rfl, rfl, rfl, fun e => absurd e (by rw [ho]; decide), rfl, rfl⟩
          rw [va_up2, va_up_self, List.append_assoc] at m1
          refine ⟨m1, ?_, ?_, ?_, ?_⟩
          · rw [List.length_append, List.length_singleton, ← i2]
          · exact (send_AM (by decide)).trans i3
          · exact (send_AM (by decide)).trans i5
          · exact (send_FM (by decide)).trans i4
end PROC
