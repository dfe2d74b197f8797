/-! ===== class and model side by side: a message is taken ===== -/
theorem MR.ms {x y : St} {T : Nat} {R K S V W : Nat → Nat → Int} {O : Nat → List Nat} {H : Nat → Nat → Int} {q q' : Nat → List M7} (h : MR x T R K S V W O H q) (hA : ∀ r, r < 20 → y.AM r = x.AM r) (hF : ∀ r, r = 1 ∨ r = 2 ∨ r = 3 → y.FM r = x.FM r) (h21 : ∀ k, k < 16 → y.AM 21 k = nI (q' k).length) (hQ : mQ (y.FM 4) (y.AM 22) (q' 16)) (hP : mP (y.AM 20) q') : MR y T R K S V W O H q' := by
  obtain ⟨g1, g2, g3, g4, g5, g6, g7, g8⟩ := h
  unfold MR
  rw [hA 0 (by decide), hA 1 (by decide), hA 2 (by decide), hA 3 (by decide), hA 4 (by decide), hA 5 (by decide), hA 6 (by decide), hA 7 (by decide), hA 8 (by decide), hA 9 (by decide), hA 10 (by decide), hA 11 (by decide), hA 12 (by decide), hA 13 (by decide), hA 14 (by decide), hA 15 (by decide), hA 16 (by decide), hA 17 (by decide), hA 18 (by decide), hA 19 (by decide), hF 1 (by decide), hF 2 (by decide), hF 3 (by decide)]
  refine ⟨g1, g2, g3, g4, fun k hk => ?_, g6, hQ, hP⟩
  obtain ⟨z1, z2, z3, z4, -⟩ := g5 k hk
  exact ⟨z1, z2, z3, z4, h21 k hk⟩
/-- shifting the rows of the way -/
theorem take_shift {x b : St} {k : Nat} : ∀ a n, (lp_X6_take_46 x k b a).AM 22 n = if 7 * k ≤ n ∧ n < 7 * k + a then b.AM 22 (n + 7) else b.AM 22 n := by
  intro a
  induction a with
  | zero =>
    intro n
    rw [if_neg (by omega)]
    rfl
  | succ a ih =>
    intro n
    unfold lp_X6_take_46
    dsimp only
    rw [AM_eq]
    by_cases e : n = 7 * k + a
    · rw [e, upd_eq, ih, if_neg (by omega), if_pos (by omega)]
    · rw [upd_ne e, ih]
      by_cases h : 7 * k ≤ n ∧ n < 7 * k + a
      · rw [if_pos h, if_pos (by omega)]
      · rw [if_neg h, if_neg (by omega)]
theorem free_shift {x y b : St} {j a15 : Nat} : ∀ a n, (lp_X6_free_73 x j a15 y b a).AM 20 n = if 40 * j * 7 ≤ n ∧ n < 40 * j * 7 + a then b.AM 20 (n + 7) else b.AM 20 n := by
  intro a
  induction a with
  | zero =>
    intro n
    rw [if_neg (by omega)]
    rfl
  | succ a ih =>
    intro n
    unfold lp_X6_free_73
    dsimp only
    rw [AM_eq]
    by_cases e : n = 40 * j * 7 + a
    · rw [e, upd_eq, ih, if_neg (by omega), if_pos (by omega)]
    · rw [upd_ne e, ih]
      by_cases h : 40 * j * 7 ≤ n ∧ n < 40 * j * 7 + a
      · rw [if_pos h, if_pos (by omega)]
      · rw [if_neg h, if_neg (by omega)]
theorem free_now {x y b : St} {j a15 : Nat} : ∀ a p, p < a → (lp_X6_free_35 x j a15 y b a).AM 23 p = b.AM 20 (40 * j * 7 + p) := by
  intro a
  induction a with
  | zero => exact fun p h => absurd h (Nat.not_lt_zero _)
  | succ a ih =>
    intro p hp
    unfold lp_X6_free_35
    dsimp only
    rw [AM_eq]
    by_cases e : p = a
    · rw [e, upd_eq, AM_lp_free_35 (by decide)]
    · rw [upd_ne e]
      exact ih p (by omega)
theorem enq_acc {x b : St} {j : Nat} : ∀ a, (∀ r, r ≠ 20 → (lp_X6_enqueue_17 x j b a).AM r = b.AM r) ∧ (lp_X6_enqueue_17 x j b a).FM = b.FM ∧ ∀ n, (lp_X6_enqueue_17 x j b a).AM 20 n = if (40 * j + nat (x.AM 21 j)) * 7 ≤ n ∧ n < (40 * j + nat (x.AM 21 j)) * 7 + a then b.AM 23 (n - (40 * j + nat (x.AM 21 j)) * 7) else b.AM 20 n := by
  intro a
  induction a with
  | zero =>
    refine ⟨fun r _ => rfl, rfl, fun n => ?_⟩
    rw [if_neg (by omega)]
    rfl
  | succ a ih =>
    obtain ⟨i1, i2, i3⟩ := ih
    unfold lp_X6_enqueue_17
    dsimp only
    refine ⟨fun r hr => by rw [AM_ne hr]; exact i1 r hr, by rw [St.FM_setAM]; exact i2, fun n => ?_⟩
    rw [AM_eq]
    by_cases e : n = (40 * j + nat (x.AM 21 j)) * 7 + a
    · rw [e, upd_eq, i1 23 (by decide), if_pos (by omega), show (40 * j + nat (x.AM 21 j)) * 7 + a - (40 * j + nat (x.AM 21 j)) * 7 = a by omega]
    · rw [upd_ne e, i3]
      by_cases h : (40 * j + nat (x.AM 21 j)) * 7 ≤ n ∧ n < (40 * j + nat (x.AM 21 j)) * 7 + a
      · rw [if_pos h, if_pos (by omega)]
      · rw [if_neg h, if_neg (by omega)]
section TAKE
variable {v : Vw} {x y A : St} {R K S V W : Nat → Nat → Int} {O : Nat → List Nat} {H : Nat → Nat → Int} {q : Nat → List M7} {i j k T c : Nat} {m : M7}
theorem er_get {l : List M7} {k n : Nat} {z : M7} (h : (l.eraseIdx k)[n]? = some z) : l[if n < k then n else n + 1]? = some z := er_idx h
/-- the way without message k, the message at hand -/
theorem MR.tk (h : MR x T R K S V W O H q) (hq : (q 16).length ≤ 64) (hm : (q 16)[k]? = some m) {y : St} (hy : y = lp_X6_take_46 x k ((lp_X6_take_2 x k x 7).setFM 4 (nI ((nat (x.FM 4)) - 1))) (7 * (nat (x.FM 4) - 1) - 7 * k)) :
    MR y T R K S V W O H (va_up q 16 ((q 16).eraseIdx k)) ∧ mrow (y.AM 23) m ∧ (∀ r, r ≠ 22 → r ≠ 23 → y.AM r = x.AM r) ∧ y.FM 0 = x.FM 0 := by
  have hkl := (List.getElem?_eq_some_iff.mp hm).1
  obtain ⟨g1, g2, g3, g4, g5, g6, g7, g8⟩ := id h
  have hs : nat (x.FM 4) = (q 16).length := by rw [g7.1, nat_nI (by omega)]
  have hA : ∀ r, r ≠ 22 → r ≠ 23 → y.AM r = x.AM r := fun r h1 h2 => by
    rw [hy, AM_lp_take_46 h1, St.AM_setFM, AM_lp_take_2 h2]
  have hF : ∀ r, r ≠ 4 → y.FM r = x.FM r := fun r hr => by
    rw [hy, FM_lp_take_46, FM_ne hr, FM_lp_take_2]
  have hF4 : y.FM 4 = nI ((q 16).length - 1) := by rw [hy, FM_lp_take_46, FM_eq, hs]
  have h22 : ∀ n, y.AM 22 n = if 7 * k ≤ n ∧ n < 7 * ((q 16).length - 1) then x.AM 22 (n + 7) else x.AM 22 n := fun n => by
    rw [hy, take_shift, St.AM_setFM, AM_lp_take_2 (by decide), hs]
    by_cases z : 7 * k ≤ n ∧ n < 7 * ((q 16).length - 1)
    · rw [if_pos z, if_pos (by omega)]
    · rw [if_neg z, if_neg (by omega)]
  have h23 : ∀ p, p < 7 → y.AM 23 p = x.AM 22 (7 * k + p) := fun p hp => by
    rw [hy, AM_lp_take_46 (by decide), St.AM_setFM, lp_take_now hp]
  refine ⟨h.ms (fun r hr => hA r (by omega) (by omega)) (fun r hr => hF r (by omega)) (fun k hk => ?_) ⟨?_, fun n z hz => ?_⟩ (fun k hk => ?_), ?_, hA, hF 0 (by decide)⟩
  · rw [hA 21 (by decide) (by decide), va_up_ne _ _ (by omega)]
    exact (g5 k hk).2.2.2.2
  · rw [hF4, va_up_self, List.length_eraseIdx_of_lt hkl]
  · rw [va_up_self] at hz
    have hnl := (List.getElem?_eq_some_iff.mp hz).1
    rw [List.length_eraseIdx_of_lt hkl] at hnl
    have r := g7.2 _ z (er_get hz)
    unfold mrow at r ⊢
    dsimp only at r ⊢
    by_cases hn : n < k
    · rw [if_pos hn] at r
      have e : ∀ p, p < 7 → y.AM 22 (7 * n + p) = x.AM 22 (7 * n + p) := fun p hp => by rw [h22, if_neg (by omega)]
      rw [e 0 (by decide), e 1 (by decide), e 2 (by decide), e 3 (by decide), e 4 (by decide), e 5 (by decide), e 6 (by decide)]
      exact r
    · rw [if_neg hn] at r
      have e : ∀ p, p < 7 → y.AM 22 (7 * n + p) = x.AM 22 (7 * (n + 1) + p) := fun p hp => by
        rw [h22, if_pos (by omega), show 7 * n + p + 7 = 7 * (n + 1) + p by omega]
      rw [e 0 (by decide), e 1 (by decide), e 2 (by decide), e 3 (by decide), e 4 (by decide), e 5 (by decide), e 6 (by decide)]
      exact r
  · rw [hA 20 (by decide) (by decide), va_up_ne _ _ (by omega)]
    exact g8 k hk
  · have r := g7.2 k m hm
    unfold mrow at r ⊢
    dsimp only at r
    rw [h23 0 (by decide), h23 1 (by decide), h23 2 (by decide), h23 3 (by decide), h23 4 (by decide), h23 5 (by decide), h23 6 (by decide)]
    exact r
/-- the message at hand is put into a queue -/
theorem MR.enq (h : MR x T R K S V W O H q) (hj : j < 16) (hq : ∀ n, n < 16 → (q n).length ≤ 20) (hrow : mrow (x.AM 23) m) : MR (s_X6_enqueue x j) T R K S V W O H (va_up q j (q j ++ [m])) ∧ (s_X6_enqueue x j).FM 0 = x.FM 0 := by
  obtain ⟨g1, g2, g3, g4, g5, g6, g7, g8⟩ := id h
  obtain ⟨a1, a2, a3⟩ := enq_acc (x := x) (b := x) (j := j) 7
  have hs : nat (x.AM 21 j) = (q j).length := by rw [(g5 j hj).2.2.2.2, nat_nI (by have := hq j hj; omega)]
  rw [hs] at a3
  have e : s_X6_enqueue x j = (lp_X6_enqueue_17 x j x 7).setAM 21 (upd ((lp_X6_enqueue_17 x j x 7).AM 21) j (((lp_X6_enqueue_17 x j x 7).AM 21 j) + nI 1)) := rfl
  rw [e, a1 21 (by decide)]
  have hl := hq j hj
  refine ⟨h.ms (fun r hr => ?_) (fun r hr => by rw [St.FM_setAM, a2]) (fun k hk => ?_) ?_ (fun k hk n z hz => ?_), by rw [St.FM_setAM, a2]⟩
  · rw [AM_ne (by omega), a1 r (by omega)]
  · rw [AM_eq]
    by_cases e : k = j
    · subst e
      rw [upd_eq, va_up_self, (g5 k hk).2.2.2.2, nI_add, List.length_append]
      rfl
    · rw [upd_ne e, va_up_ne _ _ e]
      exact (g5 k hk).2.2.2.2
  · rw [St.FM_setAM, a2, AM_ne (by decide), a1 22 (by decide), va_up_ne _ _ (by omega)]
    exact g7
  · rw [AM_ne (by decide)]
    by_cases e : k = j
    · subst e
      rw [va_up_self] at hz
      by_cases hn : n < (q k).length
      · rw [List.getElem?_append_left hn] at hz
        have r := g8 k hk n z hz
        unfold mrow at r ⊢
        dsimp only at r ⊢
        have e2 : ∀ p, p < 7 → (lp_X6_enqueue_17 x k x 7).AM 20 ((40 * k + n) * 7 + p) = x.AM 20 ((40 * k + n) * 7 + p) := fun p hp => by rw [a3, if_neg (by omega)]
        rw [e2 0 (by decide), e2 1 (by decide), e2 2 (by decide), e2 3 (by decide), e2 4 (by decide), e2 5 (by decide), e2 6 (by decide)]
        exact r
      · have : n < (q k ++ [m]).length := (List.getElem?_eq_some_iff.mp hz).1
        rw [List.length_append, List.length_singleton] at this
        obtain rfl : n = (q k).length := by omega
        rw [List.getElem?_append_right (Nat.le_refl _), Nat.sub_self] at hz
        simp only [List.getElem?_cons_zero, Option.some.injEq] at hz
        subst hz
        unfold mrow at hrow ⊢
        dsimp only
        have e2 : ∀ p, p < 7 → (lp_X6_enqueue_17 x k x 7).AM 20 ((40 * k + (q k).length) * 7 + p) = x.AM 23 p := fun p hp => by
          rw [a3, if_pos (by omega), show (40 * k + (q k).length) * 7 + p - (40 * k + (q k).length) * 7 = p by omega]
        rw [e2 0 (by decide), e2 1 (by decide), e2 2 (by decide), e2 3 (by decide), e2 4 (by decide), e2 5 (by decide), e2 6 (by decide)]
        exact hrow
    · rw [va_up_ne _ _ e] at hz
      have hn := (List.getElem?_eq_some_iff.mp hz).1
      have hnk := hq k hk
      have r := g8 k hk n z hz
      unfold mrow at r ⊢
      dsimp only at r ⊢
      have e2 : ∀ p, p < 7 → (lp_X6_enqueue_17 x j x 7).AM 20 ((40 * k + n) * 7 + p) = x.AM 20 ((40 * k + n) * 7 + p) := fun p hp => by rw [a3, if_neg (by omega)]
      rw [e2 0 (by decide), e2 1 (by decide), e2 2 (by decide), e2 3 (by decide), e2 4 (by decide), e2 5 (by decide), e2 6 (by decide)]
      exact r
/-- the first message of a queue comes to hand -/
theorem MR.deq {n a15 : Nat} {l : List M7} {z : St} (h : MR x T R K S V W O H q) (hj : j < 16) (hq : ∀ n, n < 16 → (q n).length ≤ 20) (hm : q j = m :: l) (hn : l.length = n)
    (hy : y = lp_X6_free_73 z j a15 x ((lp_X6_free_35 z j a15 x x 7).setAM 21 (upd ((lp_X6_free_35 z j a15 x x 7).AM 21) j (nI ((n + 1) - 1)))) (7 * (n + 1 - 1))) :
    MR y T R K S V W O H (va_up q j l) ∧ mrow (y.AM 23) m ∧ y.FM 0 = x.FM 0 := by
  obtain ⟨g1, g2, g3, g4, g5, g6, g7, g8⟩ := id h
  have hl := hq j hj
  rw [hm, List.length_cons] at hl
  have hA : ∀ r, r ≠ 20 → r ≠ 21 → r ≠ 23 → y.AM r = x.AM r := fun r h1 h2 h3 => by
    rw [hy, AM_lp_free_73 h1, AM_ne h2, AM_lp_free_35 h3]
  have hF : y.FM = x.FM := by rw [hy, FM_lp_free_73, St.FM_setAM, FM_lp_free_35]
  have h21 : y.AM 21 = upd (x.AM 21) j (nI n) := by
    rw [hy, AM_lp_free_73 (by decide), AM_eq, AM_lp_free_35 (by decide)]
    rfl
  have h20 : ∀ i, y.AM 20 i = if 40 * j * 7 ≤ i ∧ i < 40 * j * 7 + 7 * n then x.AM 20 (i + 7) else x.AM 20 i := fun i => by
    rw [hy, free_shift, AM_ne (by decide), AM_lp_free_35 (by decide)]
    rfl
  have h23 : ∀ p, p < 7 → y.AM 23 p = x.AM 20 (40 * j * 7 + p) := fun p hp => by
    rw [hy, AM_lp_free_73 (by decide), AM_ne (by decide), free_now 7 p hp]
  refine ⟨h.ms (fun r hr => hA r (by omega) (by omega) (by omega)) (fun r hr => by rw [hF]) (fun k hk => ?_) ?_ (fun k hk i z hz => ?_), ?_, by rw [hF]⟩
  · rw [h21]
    by_cases e : k = j
    · subst e
      rw [upd_eq, va_up_self, hn]
    · rw [upd_ne e, va_up_ne _ _ e]
      exact (g5 k hk).2.2.2.2
  · rw [hF, hA 22 (by decide) (by decide) (by decide), va_up_ne _ _ (by omega)]
    exact g7
  · by_cases e : k = j
    · subst e
      rw [va_up_self] at hz
      have hil := (List.getElem?_eq_some_iff.mp hz).1
      have r := g8 k hk (i + 1) z (by rw [hm, List.getElem?_cons_succ]; exact hz)
      unfold mrow at r ⊢
      dsimp only at r ⊢
      have e2 : ∀ p, p < 7 → y.AM 20 ((40 * k + i) * 7 + p) = x.AM 20 ((40 * k + (i + 1)) * 7 + p) := fun p hp => by
        rw [h20, if_pos (by omega), show (40 * k + i) * 7 + p + 7 = (40 * k + (i + 1)) * 7 + p by omega]
      rw [e2 0 (by decide), e2 1 (by decide), e2 2 (by decide), e2 3 (by decide), e2 4 (by decide), e2 5 (by decide), e2 6 (by decide)]
      exact r
    · rw [va_up_ne _ _ e] at hz
      have hil := (List.getElem?_eq_some_iff.mp hz).1
      have hnk := hq k hk
      have r := g8 k hk i z hz
      unfold mrow at r ⊢
      dsimp only at r ⊢
      have e2 : ∀ p, p < 7 → y.AM 20 ((40 * k + i) * 7 + p) = x.AM 20 ((40 * k + i) * 7 + p) := fun p hp => by rw [h20, if_neg (by omega)]
      rw [e2 0 (by decide), e2 1 (by decide), e2 2 (by decide), e2 3 (by decide), e2 4 (by decide), e2 5 (by decide), e2 6 (by decide)]
      exact r
  · have r := g8 j hj 0 m (by rw [hm]; rfl)
    unfold mrow at r ⊢
    dsimp only at r
    rw [h23 0 (by decide), h23 1 (by decide), h23 2 (by decide), h23 3 (by decide), h23 4 (by decide), h23 5 (by decide), h23 6 (by decide), show 40 * j * 7 = (40 * j + 0) * 7 by omega]
    exact r
end TAKE
