/-! ===== the model's arrays, against the same numbers ===== -/
/-- a row of seven numbers of the model is a message (its value where the kind has one) -/
def mrow (f : Nat → Int32) (m : M7) : Prop := f 0 = m 0 ∧ f 1 = m 1 ∧ f 2 = m 2 ∧ f 3 = m 3 ∧ ((kd m = 3 ∨ kd m = 5) → f 4 = m 4) ∧ f 5 = m 5 ∧ f 6 = m 6
def mA (a0 a1 a6 a7 a8 a9 : Nat → Int32) (R K : Nat → Nat → Int) : Prop := ∀ i, i < 4 → (a0 i).toInt = K i 9 ∧ (a1 i).toInt = K i 10 ∧ (a6 i).toInt = K i 12 ∧ (a7 i).toInt = K i 13 ∧ (a8 i).toInt = K i 11 ∧ (a9 i).toInt = R i 0
def mB (a10 a11 a12 a13 a14 a15 : Nat → Int32) (R : Nat → Nat → Int) : Prop := ∀ i, i < 4 → R i 0 ≠ -1 → (a10 i).toInt = R i 1 ∧ (R i 1 = 1 → (a11 i).toInt = R i 2) ∧ (a12 i).toInt = R i 3 ∧ (R i 3 = 1 → (R i 1 = 0 → (a13 i).toInt = R i 4) ∧ (a14 i).toInt = R i 5) ∧ (a15 i).toInt = R i 6
def mC (a2 a3 a5 : Nat → Int32) (S V W : Nat → Nat → Int) : Prop := ∀ i j, i < 4 → j < 16 → (a2 (16 * i + j)).toInt = S i j ∧ (S i j ≠ 0 → (a3 (16 * i + j)).toInt = V i j) ∧ (a5 (16 * i + j)).toInt = W i j
/-- the times of uses grow along the order -/
def mU (u : Nat → Int32) (t : Int32) (T : Nat) (O : Nat → List Nat) : Prop := 0 ≤ t.toInt ∧ t.toInt ≤ T ∧ ∀ i, i < 4 → (O i).Pairwise (fun a b => (u (16 * i + a)).toInt < (u (16 * i + b)).toInt) ∧ ∀ a ∈ O i, a < 16 ∧ (u (16 * i + a)).toInt ≤ t.toInt
def mH (a16 a17 a18 a19 a21 : Nat → Int32) (H : Nat → Nat → Int) (q : Nat → List M7) : Prop := ∀ j, j < 16 → (a16 j).toInt = H j 3 ∧ (a17 j).toInt = H j 4 ∧ (a18 j).toInt = H j 5 ∧ (a19 j).toInt = H j 6 ∧ a21 j = nI (q j).length
def isum (f : Nat → Int32) : Nat → Int32
  | 0 => nI 0
  | n + 1 => isum f n + f n
def mW (f2 f3 : Int32) (H : Nat → Nat → Int) : Prop := f2 = isum (fun j => Int32.ofInt (H j 7)) 16 ∧ f3 = isum (fun j => Int32.ofInt (H j 8)) 16
def mQ (f4 : Int32) (a22 : Nat → Int32) (l : List M7) : Prop := f4 = nI l.length ∧ ∀ k m, l[k]? = some m → mrow (fun p => a22 (7 * k + p)) m
def mP (a20 : Nat → Int32) (q : Nat → List M7) : Prop := ∀ j, j < 16 → ∀ k m, (q j)[k]? = some m → mrow (fun p => a20 ((40 * j + k) * 7 + p)) m
def MR (x : St) (T : Nat) (R K S V W : Nat → Nat → Int) (O : Nat → List Nat) (H : Nat → Nat → Int) (q : Nat → List M7) : Prop :=
  mA (x.AM 0) (x.AM 1) (x.AM 6) (x.AM 7) (x.AM 8) (x.AM 9) R K ∧ mB (x.AM 10) (x.AM 11) (x.AM 12) (x.AM 13) (x.AM 14) (x.AM 15) R ∧ mC (x.AM 2) (x.AM 3) (x.AM 5) S V W ∧ mU (x.AM 4) (x.FM 1) T O ∧
  mH (x.AM 16) (x.AM 17) (x.AM 18) (x.AM 19) (x.AM 21) H q ∧ mW (x.FM 2) (x.FM 3) H ∧ mQ (x.FM 4) (x.AM 22) (q 16) ∧ mP (x.AM 20) q
theorem upd_eq {f : Nat → Int32} {n : Nat} {w : Int32} : upd f n w n = w := by simp [upd]
theorem upd_ne {f : Nat → Int32} {n k : Nat} {w : Int32} (h : k ≠ n) : upd f n w k = f k := by simp [upd, h]
section MRG
variable {a2 a3 a5 u : Nat → Int32} {R K S V W : Nat → Nat → Int} {O : Nat → List Nat} {H : Nat → Nat → Int} {q : Nat → List M7} {i j T : Nat} {s v w t : Int32} {z : Int}
theorem mC.st (h : mC a2 a3 a5 S V W) (hj : j < 16) (hv : s.toInt ≠ 0 → (a3 (16 * i + j)).toInt = V i j) : mC (upd a2 (16 * i + j) s) a3 a5 (w2 S i j s.toInt) V W := by
  intro k n hk hn
  obtain ⟨q1, q2, q3⟩ := h k n hk hn
  by_cases e : k = i ∧ n = j
  · obtain ⟨rfl, rfl⟩ := e
    rw [upd_eq, w2_eq]
    exact ⟨rfl, hv, q3⟩
  · rw [upd_ne (by omega), w2_ne e]
    exact ⟨q1, q2, q3⟩
theorem mC.store (h : mC a2 a3 a5 S V W) (hj : j < 16) : mC (upd a2 (16 * i + j) s) (upd a3 (16 * i + j) v) a5 (w2 S i j s.toInt) (w2 V i j v.toInt) W := by
  intro k n hk hn
  obtain ⟨q1, q2, q3⟩ := h k n hk hn
  by_cases e : k = i ∧ n = j
  · obtain ⟨rfl, rfl⟩ := e
    rw [upd_eq, upd_eq, w2_eq, w2_eq]
    exact ⟨rfl, fun _ => rfl, q3⟩
  · rw [upd_ne (by omega), upd_ne (by omega), w2_ne e, w2_ne e]
    exact ⟨q1, q2, q3⟩
theorem mC.drop (h : mC a2 a3 a5 S V W) (hj : j < 16) : mC (upd a2 (16 * i + j) (nI 0)) a3 a5 (w2 S i j 0) (w2 V i j z) W := by
  intro k n hk hn
  obtain ⟨q1, q2, q3⟩ := h k n hk hn
  by_cases e : k = i ∧ n = j
  · obtain ⟨rfl, rfl⟩ := e
    rw [upd_eq, w2_eq, w2_eq]
    exact ⟨by decide, fun e => (e rfl).elim, q3⟩
  · rw [upd_ne (by omega), w2_ne e, w2_ne e]
    exact ⟨q1, q2, q3⟩
theorem mC.vic (h : mC a2 a3 a5 S V W) (hj : j < 16) : mC a2 a3 (upd a5 (16 * i + j) w) S V (w2 W i j w.toInt) := by
  intro k n hk hn
  obtain ⟨q1, q2, q3⟩ := h k n hk hn
  by_cases e : k = i ∧ n = j
  · obtain ⟨rfl, rfl⟩ := e
    rw [upd_eq, w2_eq]
    exact ⟨q1, q2, rfl⟩
  · rw [upd_ne (by omega), w2_ne e]
    exact ⟨q1, q2, q3⟩
theorem mC.val (h : mC a2 a3 a5 S V W) (hj : j < 16) : mC a2 (upd a3 (16 * i + j) v) a5 S (w2 V i j v.toInt) W := by
  intro k n hk hn
  obtain ⟨q1, q2, q3⟩ := h k n hk hn
  by_cases e : k = i ∧ n = j
  · obtain ⟨rfl, rfl⟩ := e
    rw [upd_eq, w2_eq]
    exact ⟨q1, fun _ => rfl, q3⟩
  · rw [upd_ne (by omega), w2_ne e]
    exact ⟨q1, q2, q3⟩
theorem mU.drop (h : mU u t T O) : mU u t T (va_up O i (fl (O i) j)) := by
  obtain ⟨h1, h2, h3⟩ := h
  refine ⟨h1, h2, fun k hk => ?_⟩
  by_cases e : k = i
  · subst e
    rw [va_up_self]
    exact ⟨(h3 k hk).1.sublist List.filter_sublist, fun a ha => (h3 k hk).2 a (fl_mem.mp ha).1⟩
  · rw [va_up_ne _ _ e]
    exact h3 k hk
theorem mU.use (h : mU u t T O) (hj : j < 16) (hT : T < 2 ^ 31 - 1) : mU (upd u (16 * i + j) (t + nI 1)) (t + nI 1) (T + 1) (va_up O i (fl (O i) j ++ [j])) := by
  obtain ⟨h1, h2, h3⟩ := h
  have ht : (t + nI 1).toInt = t.toInt + 1 := by
    rw [Int32.toInt_add, show (nI 1).toInt = 1 by decide]
    exact Int.bmod_eq_of_le (by omega) (by omega)
  refine ⟨by omega, by omega, fun k hk => ?_⟩
  by_cases e : k = i
  · subst e
    rw [va_up_self]
    obtain ⟨g1, g2⟩ := h3 k hk
    have un : ∀ a, a ∈ fl (O k) j → upd u (16 * k + j) (t + nI 1) (16 * k + a) = u (16 * k + a) := fun a ha => upd_ne (by have := (fl_mem.mp ha).2; omega)
    refine ⟨?_, fun a ha => ?_⟩
    · rw [List.pairwise_append]
      refine ⟨?_, by simp, fun a ha b hb => ?_⟩
      · refine List.Pairwise.imp_of_mem (fun {a b} ha hb hab => ?_) (g1.sublist (List.filter_sublist (p := fun k : Nat => decide (k ≠ j))))
        rw [un a ha, un b hb]
        exact hab
      · rw [List.mem_singleton.mp hb, un a ha, upd_eq]
        have := (g2 a (fl_mem.mp ha).1).2
        omega
    · rcases List.mem_append.mp ha with ha | ha
      · rw [un a ha]
        have := g2 a (fl_mem.mp ha).1
        omega
      · rw [List.mem_singleton.mp ha, upd_eq]
        omega
  · rw [va_up_ne _ _ e]
    refine ⟨?_, fun a ha => ?_⟩
    · refine List.Pairwise.imp_of_mem (fun {a b} ha hb hab => ?_) (h3 k hk).1
      have := ((h3 k hk).2 a ha).1
      have := ((h3 k hk).2 b hb).1
      rw [upd_ne (by omega), upd_ne (by omega)]
      exact hab
    · have := (h3 k hk).2 a ha
      rw [upd_ne (by omega)]
      omega
theorem mQ.snoc {f4 : Int32} {a22 b : Nat → Int32} {l : List M7} {m : M7} (h : mQ f4 a22 l) (hl : l.length < 2 ^ 31 - 1) (hb : ∀ n, n < 7 * l.length → b n = a22 n) (hm : mrow (fun p => b (7 * l.length + p)) m) : mQ (nI (nat f4 + 1)) b (l ++ [m]) := by
  obtain ⟨h1, h2⟩ := h
  refine ⟨by rw [h1, nat_nI (by omega), List.length_append]; rfl, fun k x hk => ?_⟩
  by_cases e : k < l.length
  · rw [List.getElem?_append_left e] at hk
    have q := h2 k x hk
    unfold mrow at q ⊢
    dsimp only at q ⊢
    rw [hb _ (by omega), hb _ (by omega), hb _ (by omega), hb _ (by omega), hb _ (by omega), hb _ (by omega), hb _ (by omega)]
    exact q
  · have : k < (l ++ [m]).length := (List.getElem?_eq_some_iff.mp hk).1
    rw [List.length_append, List.length_singleton] at this
    obtain rfl : k = l.length := by omega
    rw [List.getElem?_append_right (Nat.le_refl _), Nat.sub_self] at hk
    simp only [List.getElem?_cons_zero, Option.some.injEq] at hk
    rw [← hk]
    exact hm
end MRG
section MRS
variable {x : St} {R K S V W : Nat → Nat → Int} {O : Nat → List Nat} {H : Nat → Nat → Int} {q : Nat → List M7} {i j T : Nat}
theorem send_FM {y : St} {q : Nat} {a1 a2 a3 a4 a5 a6 a7 : Int32} (h : q ≠ 4) : (s_X6_send y a1 a2 a3 a4 a5 a6 a7).FM q = y.FM q := FM_ne h
theorem send_FM4 {y : St} {a1 a2 a3 a4 a5 a6 a7 : Int32} : (s_X6_send y a1 a2 a3 a4 a5 a6 a7).FM 4 = nI (nat (y.FM 4) + 1) := FM_eq
theorem send_row {y : St} {a1 a2 a3 a4 a5 a6 a7 : Int32} : (∀ n, n < 7 * nat (y.FM 4) → (s_X6_send y a1 a2 a3 a4 a5 a6 a7).AM 22 n = y.AM 22 n) ∧ (s_X6_send y a1 a2 a3 a4 a5 a6 a7).AM 22 (7 * nat (y.FM 4) + 0) = a1 ∧ (s_X6_send y a1 a2 a3 a4 a5 a6 a7).AM 22 (7 * nat (y.FM 4) + 1) = a2 ∧ (s_X6_send y a1 a2 a3 a4 a5 a6 a7).AM 22 (7 * nat (y.FM 4) + 2) = a3 ∧ (s_X6_send y a1 a2 a3 a4 a5 a6 a7).AM 22 (7 * nat (y.FM 4) + 3) = a4 ∧ (s_X6_send y a1 a2 a3 a4 a5 a6 a7).AM 22 (7 * nat (y.FM 4) + 4) = a5 ∧ (s_X6_send y a1 a2 a3 a4 a5 a6 a7).AM 22 (7 * nat (y.FM 4) + 5) = a6 ∧ (s_X6_send y a1 a2 a3 a4 a5 a6 a7).AM 22 (7 * nat (y.FM 4) + 6) = a7 := by
  have e : (s_X6_send y a1 a2 a3 a4 a5 a6 a7).AM 22 = upd (upd (upd (upd (upd (upd (upd (y.AM 22) (7 * nat (y.FM 4) + 0) a1) (7 * nat (y.FM 4) + 1) a2) (7 * nat (y.FM 4) + 2) a3) (7 * nat (y.FM 4) + 3) a4) (7 * nat (y.FM 4) + 4) a5) (7 * nat (y.FM 4) + 5) a6) (7 * nat (y.FM 4) + 6) a7 := rfl
  rw [e]
  generalize 7 * nat (y.FM 4) = b
  refine ⟨fun n hn => ?_, ?_, ?_, ?_, ?_, ?_, ?_, ?_⟩
  · repeat rw [upd_ne (by omega)]
  · rw [upd_ne (by omega), upd_ne (by omega), upd_ne (by omega), upd_ne (by omega), upd_ne (by omega), upd_ne (by omega), upd_eq]
  · rw [upd_ne (by omega), upd_ne (by omega), upd_ne (by omega), upd_ne (by omega), upd_ne (by omega), upd_eq]
  · rw [upd_ne (by omega), upd_ne (by omega), upd_ne (by omega), upd_ne (by omega), upd_eq]
  · rw [upd_ne (by omega), upd_ne (by omega), upd_ne (by omega), upd_eq]
  · rw [upd_ne (by omega), upd_ne (by omega), upd_eq]
  · rw [upd_ne (by omega), upd_eq]
  · rw [upd_eq]
theorem MR.send {a1 a2 a3 a4 a5 a6 a7 : Int32} {m : M7} (h : MR x T R K S V W O H q) (hl : (q 16).length < 400) (hm : a1 = m 0 ∧ a2 = m 1 ∧ a3 = m 2 ∧ a4 = m 3 ∧ ((kd m = 3 ∨ kd m = 5) → a5 = m 4) ∧ a6 = m 5 ∧ a7 = m 6) : MR (s_X6_send x a1 a2 a3 a4 a5 a6 a7) T R K S V W O H (va_up q 16 (q 16 ++ [m])) := by
  obtain ⟨h1, h2, h3, h4, h5, h6, h7, h8⟩ := h
  unfold MR
  have e : ∀ r, r ≠ 22 → (s_X6_send x a1 a2 a3 a4 a5 a6 a7).AM r = x.AM r := fun r h => send_AM h
  rw [e 0 (by decide), e 1 (by decide), e 2 (by decide), e 3 (by decide), e 4 (by decide), e 5 (by decide), e 6 (by decide), e 7 (by decide), e 8 (by decide), e 9 (by decide), e 10 (by decide), e 11 (by decide), e 12 (by decide), e 13 (by decide), e 14 (by decide), e 15 (by decide), e 16 (by decide), e 17 (by decide), e 18 (by decide), e 19 (by decide), e 20 (by decide), e 21 (by decide), send_FM (by decide : 1 ≠ 4), send_FM (by decide : 2 ≠ 4), send_FM (by decide : 3 ≠ 4), send_FM4]
  refine ⟨h1, h2, h3, h4, fun j hj => ?_, h6, ?_, fun j hj => ?_⟩
  · rw [va_up_ne _ _ (by omega)]
    exact h5 j hj
  · rw [va_up_self]
    have hs : nat (x.FM 4) = (q 16).length := by rw [h7.1, nat_nI (by omega)]
    obtain ⟨r0, r1, r2, r3, r4, r5, r6, r7⟩ := send_row (y := x) (a1 := a1) (a2 := a2) (a3 := a3) (a4 := a4) (a5 := a5) (a6 := a6) (a7 := a7)
    rw [hs] at r0 r1 r2 r3 r4 r5 r6 r7
    refine h7.snoc (by omega) r0 ?_
    unfold mrow
    dsimp only
    rw [r1, r2, r3, r4, r5, r6, r7]
    exact hm
  · rw [va_up_ne _ _ (by omega)]
    exact h8 j hj
theorem MR.fm0 {w : Int32} (h : MR x T R K S V W O H q) : MR (x.setFM 0 w) T R K S V W O H q := h
theorem MR.use (h : MR x T R K S V W O H q) (hj : j < 16) (hT : T < 2 ^ 31 - 1) : MR (s_X6_use x i j) (T + 1) R K S V W (va_up O i (fl (O i) j ++ [j])) H q := by
  obtain ⟨h1, h2, h3, h4, h5, h6, h7, h8⟩ := h
  exact ⟨h1, h2, h3, h4.use hj hT, h5, h6, h7, h8⟩
theorem MR.drop {z : Int} (h : MR x T R K S V W O H q) (hj : j < 16) : MR (x.setAM 2 (upd (x.AM 2) (16 * i + j) (nI 0))) T R K (w2 S i j 0) (w2 V i j z) W (va_up O i (fl (O i) j)) H q := by
  obtain ⟨h1, h2, h3, h4, h5, h6, h7, h8⟩ := h
  exact ⟨h1, h2, h3.drop hj, h4.drop, h5, h6, h7, h8⟩
theorem MR.vic {w : Int32} (h : MR x T R K S V W O H q) (hj : j < 16) : MR (x.setAM 5 (upd (x.AM 5) (16 * i + j) w)) T R K S V (w2 W i j w.toInt) O H q := by
  obtain ⟨h1, h2, h3, h4, h5, h6, h7, h8⟩ := h
  exact ⟨h1, h2, h3.vic hj, h4, h5, h6, h7, h8⟩
theorem MR.st {s : Int32} (h : MR x T R K S V W O H q) (hi : i < 4) (hj : j < 16) (hs : S i j ≠ 0) : MR (x.setAM 2 (upd (x.AM 2) (16 * i + j) s)) T R K (w2 S i j s.toInt) V W O H q := by
  obtain ⟨h1, h2, h3, h4, h5, h6, h7, h8⟩ := h
  exact ⟨h1, h2, h3.st hj (fun _ => (h3 i j hi hj).2.1 hs), h4, h5, h6, h7, h8⟩
theorem MR.val {v : Int32} (h : MR x T R K S V W O H q) (hj : j < 16) : MR (x.setAM 3 (upd (x.AM 3) (16 * i + j) v)) T R K S (w2 V i j v.toInt) W O H q := by
  obtain ⟨h1, h2, h3, h4, h5, h6, h7, h8⟩ := h
  exact ⟨h1, h2, h3.val hj, h4, h5, h6, h7, h8⟩
theorem MR.store {s v : Int32} (h : MR x T R K S V W O H q) (hj : j < 16) : MR ((x.setAM 2 (upd (x.AM 2) (16 * i + j) s)).setAM 3 (upd ((x.setAM 2 (upd (x.AM 2) (16 * i + j) s)).AM 3) (16 * i + j) v)) T R K (w2 S i j s.toInt) (w2 V i j v.toInt) W O H q := by
  obtain ⟨h1, h2, h3, h4, h5, h6, h7, h8⟩ := h
  exact ⟨h1, h2, h3.store hj, h4, h5, h6, h7, h8⟩
end MRS
