/-! ===== numbers, and all messages there are ===== -/
theorem i32_le0 {a : Int32} : a ≤ 0 ↔ a.toInt ≤ 0 := Int32.le_iff_toInt_le
theorem i32_lt0 {a : Int32} : a < 0 ↔ a.toInt < 0 := Int32.lt_iff_toInt_lt
theorem i32_eq {a b : Int32} : a = b ↔ a.toInt = b.toInt := Int32.toInt_inj.symm

theorem upd_eq {f : Nat → Int32} {n : Nat} {w : Int32} : upd f n w n = w := by simp [upd]
theorem upd_ne {f : Nat → Int32} {n k : Nat} {w : Int32} (h : k ≠ n) : upd f n w k = f k := by simp [upd, h]
/-- all messages: those on the way, and those in the queues -/
def allq (q : Nat → List M7) : List M7 := q 16 ++ (List.range 16).flatMap q
/-- in the queue of a line are messages of that line, which a home processes -/
def PLQ (q : Nat → List M7) : Prop := ∀ j, j < 16 → ∀ m ∈ q j, 1 ≤ kd m ∧ kd m ≤ 3 ∧ ln m = (j : Int)
section ALLQ
variable {q : Nat → List M7} {m : M7} {j k : Nat}
theorem fm_split (q : Nat → List M7) (j : Nat) : ∀ n, j < n → ∃ A B : List M7, ∀ q' : Nat → List M7, (∀ k, k ≠ j → q' k = q k) → (List.range n).flatMap q' = A ++ (q' j ++ B) := by
  intro n
  induction n with
  | zero => exact fun h => absurd h (Nat.not_lt_zero _)
  | succ n ih =>
    intro h
    by_cases e : j = n
    · subst e
      refine ⟨(List.range j).flatMap q, [], fun q' hq => ?_⟩
      rw [List.range_succ, List.flatMap_append]
      have : (List.range j).flatMap q' = (List.range j).flatMap q := by
        rw [List.flatMap_def, List.flatMap_def]
        congr 1
        exact List.map_congr_left (fun k hk => hq k (by have := List.mem_range.mp hk; omega))
      rw [this]
      simp
    · obtain ⟨A, B, hAB⟩ := ih (by omega)
      refine ⟨A, B ++ q n, fun q' hq => ?_⟩
      rw [List.range_succ, List.flatMap_append, hAB q' hq]
      simp [hq n (Ne.symm e)]
theorem fm_way (q : Nat → List M7) (l : List M7) : (List.range 16).flatMap (va_up q 16 l) = (List.range 16).flatMap q := by
  rw [List.flatMap_def, List.flatMap_def]
  congr 1
theorem allq_send : (allq (va_up q 16 (q 16 ++ [m]))).Perm (m :: allq q) := by
  unfold allq
  rw [fm_way, va_up_self, List.append_assoc]
  exact List.perm_middle
theorem allq_way {l l' : List M7} (h : l.Perm (l' ++ q 16)) : (allq (va_up q 16 l)).Perm (l' ++ allq q) := by
  unfold allq
  rw [fm_way, va_up_self, ← List.append_assoc]
  exact h.append_right _
theorem erase_perm {l : List M7} (h : l[k]? = some m) : l.Perm (m :: l.eraseIdx k) := by
  induction l generalizing k with
  | nil => simp at h
  | cons a l ih =>
    cases k with
    | zero =>
      simp only [List.getElem?_cons_zero, Option.some.injEq] at h
      subst h
      exact List.Perm.refl _
    | succ k =>
      rw [List.getElem?_cons_succ] at h
      rw [List.eraseIdx_cons_succ]
      exact ((ih h).cons a).trans (List.Perm.swap _ _ _)
theorem allq_rem (h : (q 16)[k]? = some m) : (allq q).Perm (m :: allq (va_up q 16 ((q 16).eraseIdx k))) := by
  unfold allq
  rw [fm_way, va_up_self, ← List.cons_append]
  exact (erase_perm h).append_right _
theorem allq_upd {l : List M7} (hj : j < 16) : ∃ C : List M7, (allq q).Perm (q j ++ C) ∧ (allq (va_up q j l)).Perm (l ++ C) := by
  obtain ⟨A, B, hAB⟩ := fm_split q j 16 hj
  refine ⟨q 16 ++ (A ++ B), ?_, ?_⟩
  · unfold allq
    rw [hAB q (fun _ _ => rfl)]
    refine (List.Perm.append_left (q 16) (List.perm_append_comm_assoc A (q j) B)).trans ?_
    exact List.perm_append_comm_assoc _ _ _
  · unfold allq
    rw [hAB (va_up q j l) (fun k hk => va_up_ne _ _ hk), va_up_self, va_up_ne _ _ (by omega)]
    refine (List.Perm.append_left (q 16) (List.perm_append_comm_assoc A l B)).trans ?_
    exact List.perm_append_comm_assoc _ _ _
theorem allq_enq (hj : j < 16) : (allq (va_up q j (q j ++ [m]))).Perm (m :: allq q) := by
  obtain ⟨C, h1, h2⟩ := allq_upd (q := q) (l := q j ++ [m]) hj
  refine h2.trans ?_
  rw [List.append_assoc]
  exact List.perm_middle.trans (h1.symm.cons m)
theorem allq_deq {l : List M7} (hj : j < 16) (h : q j = m :: l) : (allq q).Perm (m :: allq (va_up q j l)) := by
  obtain ⟨C, h1, h2⟩ := allq_upd (q := q) (l := l) hj
  rw [h] at h1
  exact h1.trans (h2.symm.cons m)
theorem PLQ.way {l : List M7} (h : PLQ q) : PLQ (va_up q 16 l) := fun j hj m hm => by
  rw [va_up_ne _ _ (by omega)] at hm
  exact h j hj m hm
end ALLQ
