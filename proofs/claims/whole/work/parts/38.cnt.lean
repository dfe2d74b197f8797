/-! ===== what the model counts, and all messages there are ===== -/
theorem i32_le0 {a : Int32} : a ≤ 0 ↔ a.toInt ≤ 0 := Int32.le_iff_toInt_le
theorem i32_lt0 {a : Int32} : a < 0 ↔ a.toInt < 0 := Int32.lt_iff_toInt_lt
theorem i32_eq {a b : Int32} : a = b ↔ a.toInt = b.toInt := Int32.toInt_inj.symm
section CNT
variable {x : St} {R K S V W : Nat → Nat → Int} {O : Nat → List Nat} {H : Nat → Nat → Int} {q : Nat → List M7} {i j T : Nat}
theorem lines_lp (hC : mC (x.AM 2) (x.AM 3) (x.AM 5) S V W) (hi : i < 4) (hS : ∀ j : Nat, j < 16 → 0 ≤ S i j) : ∀ n, n ≤ 16 → lp_X6_linesIn_4 x i 0 n = (List.range n).countP (fun j => decide (S i j ≠ 0)) := by
  intro n
  induction n with
  | zero => exact fun _ => rfl
  | succ n ih =>
    intro hn
    unfold lp_X6_linesIn_4
    rw [ih (by omega), List.range_succ, List.countP_append, List.countP_singleton]
    have e := (hC i n hi (by omega)).1
    have s := hS n (by omega)
    by_cases h : S i n = 0
    · rw [if_pos (i32_le0.mpr (by omega)), if_neg (by simp [h])]
    · rw [if_neg (fun q => by have := i32_le0.mp q; omega), if_pos (by simp [h])]
theorem vic_lp (hC : mC (x.AM 2) (x.AM 3) (x.AM 5) S V W) (hi : i < 4) (hW : ∀ j : Nat, j < 16 → -1 ≤ W i j) : ∀ n, n ≤ 16 → lp_X6_victimsIn_4 x i 0 n = (List.range n).countP (fun j => decide (W i j ≠ -1)) := by
  intro n
  induction n with
  | zero => exact fun _ => rfl
  | succ n ih =>
    intro hn
    unfold lp_X6_victimsIn_4
    rw [ih (by omega), List.range_succ, List.countP_append, List.countP_singleton]
    have e := (hC i n hi (by omega)).2.2
    have s := hW n (by omega)
    by_cases h : W i n = -1
    · rw [if_pos (i32_lt0.mpr (by omega)), if_neg (by simp [h])]
    · rw [if_neg (fun q => by have := i32_lt0.mp q; omega), if_pos (by simp [h])]
/-- the lines in a cache are those in its order of uses -/
theorem ord_perm {r0 w : Int} (h : ordA (O i) (S i) r0 w) : ((List.range 16).filter (fun j => decide (S i j ≠ 0))).Perm (O i) := by
  refine (List.perm_ext_iff_of_nodup ((List.nodup_range).sublist List.filter_sublist) h.1).mpr (fun a => ?_)
  rw [h.2.1, List.mem_filter, List.mem_range, decide_eq_true_eq]
theorem lines_eq (hC : mC (x.AM 2) (x.AM 3) (x.AM 5) S V W) (hi : i < 4) (hS : ∀ j : Nat, j < 16 → 0 ≤ S i j) {r0 w : Int} (h : ordA (O i) (S i) r0 w) : r_X6_linesIn x i = (O i).length := by
  unfold r_X6_linesIn
  rw [lines_lp hC hi hS 16 (Nat.le_refl _), List.countP_eq_length_filter]
  exact (ord_perm h).length_eq
/-- how many lines were used before a line -/
theorem rank_lp (hC : mC (x.AM 2) (x.AM 3) (x.AM 5) S V W) (hi : i < 4) (hS : ∀ j : Nat, j < 16 → 0 ≤ S i j) {b : Int32} {a : Nat} : ∀ n, n ≤ 16 → lp_X6_lineBy_30 x i b a 0 n = ((List.range n).filter (fun j => decide (S i j ≠ 0))).countP (fun k => decide ((x.AM 4 (16 * i + k)).toInt < (x.AM 4 (16 * i + a)).toInt)) := by
  intro n
  induction n with
  | zero => exact fun _ => rfl
  | succ n ih =>
    intro hn
    unfold lp_X6_lineBy_30
    rw [ih (by omega), List.range_succ, List.filter_append, List.countP_append]
    have e := (hC i n hi (by omega)).1
    have s := hS n (by omega)
    by_cases h : S i n = 0
    · rw [if_pos (i32_le0.mpr (by omega)), List.filter_cons_of_neg (by simp [h])]
      rfl
    · rw [if_neg (fun q => by have := i32_le0.mp q; omega), List.filter_cons_of_pos (by simp [h]), List.filter_nil, List.countP_singleton]
      by_cases h2 : (x.AM 4 (16 * i + n)).toInt < (x.AM 4 (16 * i + a)).toInt
      · rw [if_neg (fun q => by have := Int32.le_iff_toInt_le.mp q; omega), if_pos (by simp [h2])]
      · rw [if_pos (Int32.le_iff_toInt_le.mpr (by omega)), if_neg (by simp [h2])]
theorem rank_ord {u : Nat → Int} : ∀ (l : List Nat) (p a : Nat), l.Pairwise (fun a b => u a < u b) → l[p]? = some a → l.countP (fun k => decide (u k < u a)) = p := by
  intro l
  induction l with
  | nil => exact fun p a _ h => by simp at h
  | cons b l ih =>
    intro p a hp h
    obtain ⟨p1, p2⟩ := List.pairwise_cons.mp hp
    cases p with
    | zero =>
      simp only [List.getElem?_cons_zero, Option.some.injEq] at h
      subst h
      rw [List.countP_cons, if_neg (by simp)]
      rw [Nat.add_zero, List.countP_eq_zero]
      intro k hk
      have := p1 k hk
      simp only [decide_eq_true_eq]
      omega
    | succ p =>
      rw [List.getElem?_cons_succ] at h
      have hm := List.mem_of_getElem? h
      have := p1 a hm
      rw [List.countP_cons, ih p a p2 h, if_pos (by simp only [decide_eq_true_eq]; omega)]
/-- the line at a place of the order of uses -/
theorem lineBy_eq (hC : mC (x.AM 2) (x.AM 3) (x.AM 5) S V W) (hi : i < 4) (hS : ∀ j : Nat, j < 16 → 0 ≤ S i j) {r0 w : Int} (h : ordA (O i) (S i) r0 w) {t : Int32} (hU : mU (x.AM 4) t T O) {b : Int32} : (∀ p a, (O i)[p]? = some a → b = nI p → r_X6_lineBy x i b = nI a) ∧ ((∀ p, p < (O i).length → b ≠ nI p) → r_X6_lineBy x i b = -1) := by
  have hlen : (O i).length ≤ 16 := by
    have := (ord_perm h).length_eq
    have h2 := List.length_filter_le (fun j => decide (S i j ≠ 0)) (List.range 16)
    rw [List.length_range] at h2
    omega
  have hr : ∀ p a, (O i)[p]? = some a → lp_X6_lineBy_30 x i b a 0 16 = p := by
    intro p a hp
    rw [rank_lp hC hi hS 16 (Nat.le_refl _), (ord_perm h).countP_eq]
    exact rank_ord (u := fun k => (x.AM 4 (16 * i + k)).toInt) (O i) p a (hU.2.2 i hi).1 hp
  have hin : ∀ a : Nat, a < 16 → x.AM 2 (16 * i + a) ≠ 0 → ∃ p : Nat, (O i)[p]? = some a := by
    intro a ha hz
    refine List.getElem?_of_mem ((h.2.1 a).mpr ⟨ha, fun e => hz (i32_eq.mpr ?_)⟩)
    rw [(hC i a hi ha).1, e]
    rfl
  unfold r_X6_lineBy
  refine ⟨fun p a hp hb => ?_, fun hb => ?_⟩
  · have ha := (h.2.1 a).mp (List.mem_of_getElem? hp)
    have hpl := (List.getElem?_eq_some_iff.mp hp).1
    have key : ∀ n c, c + n = 16 → c ≤ a → lq_X6_lineBy_2 x i b n c = nI a := by
      intro n
      induction n with
      | zero => exact fun c h1 h2 => by omega
      | succ n ih =>
        intro c h1 h2
        unfold lq_X6_lineBy_2
        by_cases hca : c = a
        · subst hca
          rw [if_neg (fun q => by have := i32_eq.mp q; rw [(hC i c hi ha.1).1] at this; exact ha.2 this), if_pos (by rw [hr p c hp, hb])]
        · by_cases hz : x.AM 2 (16 * i + c) = 0
          · rw [if_pos hz]
            exact ih (c + 1) (by omega) (by omega)
          · rw [if_neg hz, if_neg]
            · exact ih (c + 1) (by omega) (by omega)
            · intro e
              obtain ⟨p2, hp2⟩ := hin c (by omega) hz
              have hpl2 := (List.getElem?_eq_some_iff.mp hp2).1
              rw [hr p2 c hp2, hb, nI_eq (by omega) (by omega)] at e
              subst e
              rw [hp2] at hp
              exact hca (Option.some.inj hp)
    exact key 16 0 rfl (Nat.zero_le _)
  · have key : ∀ n c, c + n = 16 → lq_X6_lineBy_2 x i b n c = -1 := by
      intro n
      induction n with
      | zero => exact fun c _ => rfl
      | succ n ih =>
        intro c h1
        unfold lq_X6_lineBy_2
        by_cases hz : x.AM 2 (16 * i + c) = 0
        · rw [if_pos hz]
          exact ih (c + 1) (by omega)
        · rw [if_neg hz, if_neg]
          · exact ih (c + 1) (by omega)
          · intro e
            obtain ⟨p2, hp2⟩ := hin c (by omega) hz
            rw [hr p2 c hp2] at e
            exact hb p2 (List.getElem?_eq_some_iff.mp hp2).1 e.symm
    exact key 16 0 rfl
end CNT
/-- all messages: those on the way, and those in the queues -/
def allq (q : Nat → List M7) : List M7 := q 16 ++ (List.range 16).flatMap q
/-- in the queue of a line are messages of that line, which a home processes -/
def PLQ (q : Nat → List M7) : Prop := ∀ j, j < 16 → ∀ m ∈ q j, 1 ≤ kd m ∧ kd m ≤ 3 ∧ ln m = (j : Int)
section ALLQ
variable {q : Nat → List M7} {m : M7} {j k : Nat}
theorem fm_split (q : Nat → List M7) (j : Nat) : ∀ n, j < n → ∃ A B : List M7, ∀ q' : Nat → List M7, (∀ k, k ≠ j → q' k = q k) → (List.range n).flatMap q' = A ++ (q' j ++ B) := by
  intro n
  induction n with
  | zero => exact fun h => absurd h (Nat.not_lt_zero _)
  | succ n ih =>
    intro h
    by_cases e : j = n
    · subst e
      refine ⟨(List.range j).flatMap q, [], fun q' hq => ?_⟩
      rw [List.range_succ, List.flatMap_append]
      have : (List.range j).flatMap q' = (List.range j).flatMap q := by
        rw [List.flatMap_def, List.flatMap_def]
        congr 1
        exact List.map_congr_left (fun k hk => hq k (by have := List.mem_range.mp hk; omega))
      rw [this]
      simp
    · obtain ⟨A, B, hAB⟩ := ih (by omega)
      refine ⟨A, B ++ q n, fun q' hq => ?_⟩
      rw [List.range_succ, List.flatMap_append, hAB q' hq]
      simp [hq n (Ne.symm e)]
theorem fm_way (q : Nat → List M7) (l : List M7) : (List.range 16).flatMap (va_up q 16 l) = (List.range 16).flatMap q := by
  rw [List.flatMap_def, List.flatMap_def]
  congr 1
theorem allq_send : (allq (va_up q 16 (q 16 ++ [m]))).Perm (m :: allq q) := by
  unfold allq
  rw [fm_way, va_up_self, List.append_assoc]
  exact List.perm_middle
theorem allq_way {l l' : List M7} (h : l.Perm (l' ++ q 16)) : (allq (va_up q 16 l)).Perm (l' ++ allq q) := by
  unfold allq
  rw [fm_way, va_up_self, ← List.append_assoc]
  exact h.append_right _
theorem erase_perm {l : List M7} (h : l[k]? = some m) : l.Perm (m :: l.eraseIdx k) := by
  induction l generalizing k with
  | nil => simp at h
  | cons a l ih =>
    cases k with
    | zero =>
      simp only [List.getElem?_cons_zero, Option.some.injEq] at h
      subst h
      exact List.Perm.refl _
    | succ k =>
      rw [List.getElem?_cons_succ] at h
      rw [List.eraseIdx_cons_succ]
      exact ((ih h).cons a).trans (List.Perm.swap _ _ _)
theorem allq_rem (h : (q 16)[k]? = some m) : (allq q).Perm (m :: allq (va_up q 16 ((q 16).eraseIdx k))) := by
  unfold allq
  rw [fm_way, va_up_self, ← List.cons_append]
  exact (erase_perm h).append_right _
theorem allq_upd {l : List M7} (hj : j < 16) : ∃ C : List M7, (allq q).Perm (q j ++ C) ∧ (allq (va_up q j l)).Perm (l ++ C) := by
  obtain ⟨A, B, hAB⟩ := fm_split q j 16 hj
  refine ⟨q 16 ++ (A ++ B), ?_, ?_⟩
  · unfold allq
    rw [hAB q (fun _ _ => rfl)]
    refine (List.Perm.append_left (q 16) (List.perm_append_comm_assoc A (q j) B)).trans ?_
    exact List.perm_append_comm_assoc _ _ _
  · unfold allq
    rw [hAB (va_up q j l) (fun k hk => va_up_ne _ _ hk), va_up_self, va_up_ne _ _ (by omega)]
    refine (List.Perm.append_left (q 16) (List.perm_append_comm_assoc A l B)).trans ?_
    exact List.perm_append_comm_assoc _ _ _
theorem allq_enq (hj : j < 16) : (allq (va_up q j (q j ++ [m]))).Perm (m :: allq q) := by
  obtain ⟨C, h1, h2⟩ := allq_upd (q := q) (l := q j ++ [m]) hj
  refine h2.trans ?_
  rw [List.append_assoc]
  exact List.perm_middle.trans (h1.symm.cons m)
theorem allq_deq {l : List M7} (hj : j < 16) (h : q j = m :: l) : (allq q).Perm (m :: allq (va_up q j l)) := by
  obtain ⟨C, h1, h2⟩ := allq_upd (q := q) (l := l) hj
  rw [h] at h1
  exact h1.trans (h2.symm.cons m)
theorem PLQ.way {l : List M7} (h : PLQ q) : PLQ (va_up q 16 l) := fun j hj m hm => by
  rw [va_up_ne _ _ (by omega)] at hm
  exact h j hj m hm
end ALLQ
