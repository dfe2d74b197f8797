/-! ===== a home processes a message ===== -/
theorem va_up2 {α : Type} {f : Nat → α} {k : Nat} {a b : α} : va_up (va_up f k a) k b = va_up f k b := by
  funext n
  unfold va_up
  split <;> rfl
/-- the sharers that are told, as the class counts them -/
def ob (s : Int32) (c : Int32) (o : Int32) : Int32 := if o = -1 then s &&& (((nI 1) <<< (c &&& 31)) ^^^ (-1)) else (s &&& (((nI 1) <<< (c &&& 31)) ^^^ (-1))) &&& (((nI 1) <<< (o &&& 31)) ^^^ (-1))
def bset (b : Int32) (a : Nat) : Bool := decide (((b >>> ((nI a) &&& 31)) &&& (nI 1)) = (nI 1))
def ivs (b : Int32) (j : Nat) (r : Int32) (n : Nat) : List M7 := ((List.range n).filter (bset b)).map (fun a => va_up (mkM (nI 10) (nI j) (-1) (nI a)) 6 r)
theorem ivs_succ {b : Int32} {j : Nat} {r : Int32} {n : Nat} : ivs b j r (n + 1) = if ((b >>> ((nI n) &&& 31)) &&& (nI 1)) = (nI 1) then ivs b j r n ++ [va_up (mkM (nI 10) (nI j) (-1) (nI n)) 6 r] else ivs b j r n := by
  unfold ivs
  rw [List.range_succ, List.filter_append, List.map_append]
  by_cases h : ((b >>> ((nI n) &&& 31)) &&& (nI 1)) = (nI 1)
  · rw [if_pos h, List.filter_cons_of_pos (by unfold bset; exact decide_eq_true h)]
    rfl
  · rw [if_neg h, List.filter_cons_of_neg (by unfold bset; simpa using h)]
    simp
theorem ivs_len {b : Int32} {j : Nat} {r : Int32} {n : Nat} : (ivs b j r n).length ≤ n := by
  unfold ivs
  rw [List.length_map]
  have := List.length_filter_le (bset b) (List.range n)
  rw [List.length_range] at this
  exact this
theorem ivs_mem {b : Int32} {j : Nat} {r : Int32} {n : Nat} (hn : n ≤ 4) (hj : j < 16) : ∀ m ∈ ivs b j r n, kd m = 10 ∧ ln m = (j : Int) ∧ rq m = r.toInt ∧ 0 ≤ tt m ∧ tt m < 4 := by
  intro m hm
  unfold ivs at hm
  obtain ⟨a, ha, rfl⟩ := List.mem_map.mp hm
  have ha2 := List.mem_range.mp (List.mem_filter.mp ha).1
  have e : tt (va_up (mkM (nI 10) (nI j) (-1) (nI a)) 6 r) = (a : Int) := nI_toInt (n := a) (by omega)
  exact ⟨rfl, tj hj, rfl, by omega, by omega⟩
set_option maxRecDepth 100000 in
theorem bits_tab : ∀ s : Fin 16, ∀ c : Fin 4, ∀ o : Fin 5, bitc (ob (nI s) (nI c) (if o.val = 4 then -1 else nI o)) = nI ((List.range 4).filter (bset (ob (nI s) (nI c) (if o.val = 4 then -1 else nI o)))).length ∧ ∀ a : Fin 4, ((((ob (nI s) (nI c) (if o.val = 4 then -1 else nI o)) >>> ((nI a) &&& 31)) &&& (nI 1)) = (nI 1)) ↔ (¬ (((nI s) >>> ((nI a) &&& 31)) &&& (nI 1)) = 0 ∧ ¬ nI a = nI c ∧ ¬ nI a = (if o.val = 4 then -1 else nI o)) := by decide +kernel
theorem sh_tab : ∀ s : Fin 16, ∀ c : Fin 4, (0 ≤ ((nI s) ||| ((nI 1) <<< ((nI c) &&& 31))).toInt ∧ ((nI s) ||| ((nI 1) <<< ((nI c) &&& 31))).toInt < 16) ∧ (0 ≤ ((nI s) &&& (((nI 1) <<< ((nI c) &&& 31)) ^^^ (-1))).toInt ∧ ((nI s) &&& (((nI 1) <<< ((nI c) &&& 31)) ^^^ (-1))).toInt < 16) := by decide +kernel
/-- sets of caches as numbers: adding and taking away one, and who is in them -/
theorem bt_tab : ∀ s : Fin 16, ∀ a : Fin 4, ((nI s >>> ((nI a) &&& 31)) &&& (nI 1) = 0 ∨ (nI s >>> ((nI a) &&& 31)) &&& (nI 1) = nI 1) ∧ (¬ (nI s >>> ((nI a) &&& 31)) &&& (nI 1) = 0 ↔ ((nI s).toInt / (2 ^ a.val : Int) % 2 = 1)) ∧ ∀ c : Fin 4, (((nI s) ||| ((nI 1) <<< ((nI c) &&& 31))).toInt / (2 ^ a.val : Int) % 2 = 1 ↔ (a = c ∨ (nI s).toInt / (2 ^ a.val : Int) % 2 = 1)) ∧ (((nI s) &&& (((nI 1) <<< ((nI c) &&& 31)) ^^^ (-1))).toInt / (2 ^ a.val : Int) % 2 = 1 ↔ (a ≠ c ∧ (nI s).toInt / (2 ^ a.val : Int) % 2 = 1)) := by decide +kernel
theorem sh_nat {sh : Int32} (hs : 0 ≤ sh.toInt) (hs2 : sh.toInt < 16) : ∃ s : Nat, s < 16 ∧ sh = nI s := by
  refine ⟨sh.toInt.toNat, by omega, i32_eq.mpr ?_⟩
  rw [nI_toInt (by omega)]
  omega
theorem bt_or {sh r : Int32} {c : Nat} (hs : 0 ≤ sh.toInt) (hs2 : sh.toInt < 16) (hc : c < 4) (hr : r = nI c) : ∀ i : Nat, i < 4 → (bt (sh ||| ((nI 1) <<< (r &&& 31))).toInt i ↔ i = c ∨ bt sh.toInt i) := by
  intro i hi
  obtain ⟨s, h1, rfl⟩ := sh_nat hs hs2
  subst hr
  have t := ((bt_tab ⟨s, h1⟩ ⟨i, hi⟩).2.2 ⟨c, hc⟩).1
  simp only [Fin.mk.injEq] at t
  exact t
theorem bt_no {sh r : Int32} {c : Nat} (hs : 0 ≤ sh.toInt) (hs2 : sh.toInt < 16) (hc : c < 4) (hr : r = nI c) : ∀ i : Nat, i < 4 → (bt (sh &&& (((nI 1) <<< (r &&& 31)) ^^^ (-1))).toInt i ↔ i ≠ c ∧ bt sh.toInt i) := by
  intro i hi
  obtain ⟨s, h1, rfl⟩ := sh_nat hs hs2
  subst hr
  have t := ((bt_tab ⟨s, h1⟩ ⟨i, hi⟩).2.2 ⟨c, hc⟩).2
  simp only [ne_eq, Fin.mk.injEq] at t
  exact t
theorem bt_is {sh : Int32} (hs : 0 ≤ sh.toInt) (hs2 : sh.toInt < 16) : ∀ i : Nat, i < 4 → bt sh.toInt i → ¬ ((sh >>> ((nI i) &&& 31)) &&& (nI 1)) = 0 := by
  intro i hi h
  obtain ⟨s, h1, rfl⟩ := sh_nat hs hs2
  exact (bt_tab ⟨s, h1⟩ ⟨i, hi⟩).2.1.mpr h
section PROC
variable {v : Vw} {A : St} {R K S V W : Nat → Nat → Int} {O : Nat → List Nat} {H : Nat → Nat → Int} {N : Nat → Int} {q : Nat → List M7} {i j c d : Nat} {m : M7}
variable {b r : Int32}
/-- the class tells the sharers -/
theorem cinv (hc : CE v A R K S V W O H q) (hb : oth v j r = b) : ∀ n, CE (lp_X1_processWrite_32 v j r v n) A R K S V W O H (va_up q 16 (q 16 ++ ivs b j r n)) := by
  intro n
  induction n with
  | zero =>
    have : va_up q 16 (q 16 ++ ivs b j r 0) = q := by
      funext k
      unfold va_up ivs
      split
      · rename_i e
        rw [e]
        simp
      · rfl
    rw [this]
    exact hc
  | succ n ih =>
    unfold lp_X1_processWrite_32
    rw [ivs_succ, hb]
    by_cases h : ((b >>> ((nI n) &&& 31)) &&& (nI 1)) = (nI 1)
    · rw [if_pos h, if_pos h]
      have c1 := ih.snd (m := va_up (mkM (nI 10) (nI j) (-1) (nI n)) 6 r)
      rw [va_up2, va_up_self, List.append_assoc] at c1
      exact c1
    · rw [if_neg h, if_neg h]
      exact ih
end PROC
