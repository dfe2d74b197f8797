/-! ===== what the law keeps of the caches, and the view ===== -/
/-- the request of cache k, as the law keeps it -/
def SYN (v : Vw) (A : St) (k : Nat) : Prop := (A.AM 1 k).toInt = cR v k 0 ∧ cR v k 0 < 3 ∧ (cR v k 0 ≠ -1 → (A.AM 3 k).toInt = cR v k 1 ∧ (cR v k 1 = 1 → (A.AM 2 k).toInt = cR v k 2))
/-- the latest values, as the law keeps them -/
def NOW (A : St) (N : Nat → Int) : Prop := ∀ l : Nat, l < 3 → (A.AM 0 l).toInt = N l
def LW0 (v : Vw) (A : St) (N : Nat → Int) : Prop := (∀ k : Nat, k < 4 → SYN v A k) ∧ NOW A N
/-- the request of cache c for line j was closed, and the law has not looked -/
def PNC (v : Vw) (A : St) (N : Nat → Int) (c j : Nat) : Prop := A.AM 1 c = nI j ∧ cR v c 0 = -1 ∧ (∀ k : Nat, k < 4 → k ≠ c → SYN v A k) ∧
  ((A.AM 3 c = 0 ∧ v.x.AC c 0 j = nI 1 ∧ (v.x.FC c 11).toInt = N j ∧ NOW A N) ∨ (¬ A.AM 3 c = 0 ∧ v.x.AC c 0 j = nI 3 ∧ N j = (A.AM 2 c).toInt ∧ ∀ l : Nat, l < 3 → l ≠ j → (A.AM 0 l).toInt = N l))
def PND (v : Vw) (A : St) (N : Nat → Int) (q : Nat) : Prop := ∃ c j : Nat, q ≤ c ∧ c < 4 ∧ j < 3 ∧ PNC v A N c j
def k_LS (x : St) (v : Vw) (A : St) (N : Nat → Int) : Prop := VW x v [] [] ∧ SV v A N
section LAWM
variable {x : St} {v v' : Vw} {A : St} {N N' : Nat → Int} {i j k q r : Nat} {f : Nat → Int32}
theorem SV.am (h : SV v A N) : v.x.AM = A.AM := by
  obtain ⟨R, K, S, V, W, O, H, q, hc, hI, hV, hP⟩ := h
  exact hc.1.2
theorem SV.set (h : SV v A N) : SV (vAM v r f) (A.setAM r f) N := by
  obtain ⟨R, K, S, V, W, O, H, q, hc, hI, hV, hP⟩ := h
  obtain ⟨⟨h0, h00⟩, h1, h2, h3, h4, h5, h6, h7, h8, h9⟩ := hc
  refine ⟨R, K, S, V, W, O, H, q, ⟨⟨h0, ?_⟩, h1, h2, h3, h4, h5, h6, h7, h8, h9⟩, hI, hV, hP⟩
  show va_up v.x.AM r f = va_up A.AM r f
  rw [h00]
theorem k_LS.am (h : k_LS x v A N) (r : Nat) : x.AM r = A.AM r := funext fun k => by rw [h.1.AM r k, h.2.am]
theorem k_LS.set (h : k_LS x v A N) : k_LS (x.setAM r f) (vAM v r f) (A.setAM r f) N := ⟨h.1.setAM, h.2.set⟩
theorem SV.rq (h : SV v A N) (hk : k < 4) : -1 ≤ cR v k 0 ∧ cR v k 0 < 16 ∧ (cR v k 0 ≠ -1 → cR v k 1 = 0 ∨ cR v k 1 = 1) := by
  obtain ⟨R, K, S, V, W, O, H, q, hc, hI, hV, hP⟩ := h
  have c1 := hI.2.1 k hk
  unfold rqA at c1
  rw [hc.2.1]
  omega
theorem SYN.eq (h : SYN v A k) (hr : ∀ n, n < 3 → cR v' k n = cR v k n) : SYN v' A k := by
  unfold SYN at h ⊢
  rw [hr 0 (by decide), hr 1 (by decide), hr 2 (by decide)]
  exact h
theorem LW0.eq (h : LW0 v A N) (hr : rqE v v') : LW0 v' A N := ⟨fun k hk => (h.1 k hk).eq (fun n hn => hr k n hn), h.2⟩
/-- a message is delivered -/
theorem lw_take (h : SV v A N) (hL : LW0 v A N) (hk : k < (v.q 16).length) : ∃ N', SV (s_handOver v k) A N' ∧ (LW0 (s_handOver v k) A N' ∨ PND (s_handOver v k) A N' 0) := by
  obtain ⟨N', s1, e⟩ := take_v h hk
  refine ⟨N', s1, ?_⟩
  rcases e with ⟨e1, e2⟩ | ⟨c, j, hc, hj, e1, e2, e3, e4⟩
  · subst e2
    exact Or.inl (hL.eq e1)
  · obtain ⟨s1, s2, s3⟩ := hL.1 c hc
    obtain ⟨s4, s5⟩ := s3 (by omega)
    have hj3 : j < 3 := by omega
    refine Or.inr ⟨c, j, Nat.zero_le _, hc, hj3, i32_eq.mpr (by rw [s1, e1, tj hj]), e2, fun k hk hkc => (hL.1 k hk).eq (fun n hn => e3 k n hn hkc), ?_⟩
    rcases e4 with ⟨f1, f2, f3, f4⟩ | ⟨f1, f2, f3⟩
    · subst f2
      exact Or.inl ⟨i32_eq.mpr (by rw [s4, f1]; rfl), i32_eq.mpr (f3.trans t1.symm), f4, hL.2⟩
    · subst f2
      refine Or.inr ⟨fun z => ?_, i32_eq.mpr (f3.trans t3.symm), ?_, fun l hl hlj => ?_⟩
      · rw [z] at s4
        have : (0 : Int32).toInt = 0 := rfl
        omega
      · rw [vN_eq]
        exact (s5 f1).symm
      · rw [vN_ne hlj]
        exact hL.2 l hl
theorem PNC.am {c : Nat} {A' : St} (h : PNC v A N c j) (h0 : A'.AM 0 = A.AM 0) (h1 : A'.AM 1 = A.AM 1) (h2 : A'.AM 2 = A.AM 2) (h3 : A'.AM 3 = A.AM 3) : PNC v A' N c j := by
  unfold PNC SYN NOW at h ⊢
  rw [h0, h1, h2, h3]
  exact h
/-- the law looks at cache q -/
theorem lw_look (h : LW0 v A N ∨ PND v A N q) (hq : q < 4) : (SYN v A q ∧ (LW0 v A N ∨ PND v A N (q + 1))) ∨ ∃ j, j < 3 ∧ PNC v A N q j := by
  rcases h with h | ⟨c, j, h1, h2, h3, h4⟩
  · exact Or.inl ⟨h.1 q hq, Or.inl h⟩
  · by_cases e : c = q
    · subst e
      exact Or.inr ⟨j, h3, h4⟩
    · exact Or.inl ⟨h4.2.2.1 q hq (fun z => e z.symm), Or.inr ⟨c, j, by omega, h2, h3, h4⟩⟩
theorem lw_end (h : LW0 v A N ∨ PND v A N 4) : LW0 v A N := by
  rcases h with h | ⟨c, j, h1, h2, -⟩
  · exact h
  · omega
theorem updA {g : Nat → Int32} {a b : Nat} {w : Int32} : upd g a w b = if b = a then w else g b := by
  by_cases e : b = a
  · rw [if_pos e, e, upd_eq]
  · rw [if_neg e, upd_ne e]
/-- a closed request is written off -/
theorem lw_off (h : PNC v A N q j) (hj : j < 3) (hq : q < 4) {w : Int32} {A' : St} (ha : (w = A.AM 0 j ∧ A.AM 3 q = 0) ∨ (w = A.AM 2 q ∧ ¬ A.AM 3 q = 0)) (h0 : A'.AM 0 = upd (A.AM 0) j w) (h1 : A'.AM 1 = upd (A.AM 1) q (-1)) (h2 : A'.AM 2 = A.AM 2) (h3 : A'.AM 3 = A.AM 3) : LW0 v A' N := by
  obtain ⟨p1, p2, p3, p4⟩ := h
  refine ⟨fun k hk => ?_, fun l hl => ?_⟩
  · unfold SYN
    rw [h1, h2, h3, updA]
    by_cases e : k = q
    · rw [if_pos e, e, p2]
      exact ⟨rfl, by decide, fun z => (z rfl).elim⟩
    · rw [if_neg e]
      exact p3 k hk e
  · rw [h0, updA]
    rcases p4 with ⟨g1, g2, g3, g4⟩ | ⟨g1, g2, g3, g4⟩
    · rcases ha with ⟨z, _⟩ | ⟨_, z⟩
      · by_cases e : l = j
        · rw [if_pos e, z, e]
          exact g4 j hj
        · rw [if_neg e]
          exact g4 l hl
      · exact (z g1).elim
    · rcases ha with ⟨_, z⟩ | ⟨z, _⟩
      · exact (g1 z).elim
      · by_cases e : l = j
        · rw [if_pos e, z, e]
          exact g3.symm
        · rw [if_neg e]
          exact g4 l hl e
/-- a request is opened, and the law keeps it -/
theorem lw_open {w a : Int} (h : LW0 v A N) (ho : rqO v v' i j w a) (hj : j < 3) {A' : St} (h0 : A'.AM 0 = A.AM 0) (h1 : A'.AM 1 = upd (A.AM 1) i (nI j)) (h3 : ∀ k, k ≠ i → A'.AM 3 k = A.AM 3 k) (h2 : ∀ k, k ≠ i → A'.AM 2 k = A.AM 2 k) (h3i : (A'.AM 3 i).toInt = w) (h2i : w = 1 → (A'.AM 2 i).toInt = a) : LW0 v' A' N := by
  obtain ⟨o1, o2, o3, o4⟩ := ho
  refine ⟨fun k hk => ?_, fun l hl => by rw [h0]; exact h.2 l hl⟩
  unfold SYN
  rw [h1, updA]
  by_cases e : k = i
  · subst e
    rw [if_pos rfl, o2, o3, o4, tj (by omega)]
    exact ⟨rfl, by omega, fun _ => ⟨h3i, h2i⟩⟩
  · rw [if_neg e, h2 k e, h3 k e]
    exact (h.1 k hk).eq (fun n hn => o1 k n hn e)
/-- a writing at once -/
theorem lw_hit {w : Nat} (h : LW0 v A N) (hr : rqE v v') (hw : w < 2 ^ 31) {A' : St} (h0 : A'.AM 0 = upd (A.AM 0) j (nI w)) (h1 : A'.AM 1 = A.AM 1) (h2 : A'.AM 2 = A.AM 2) (h3 : A'.AM 3 = A.AM 3) : LW0 v' A' (vN N j (w : Int)) := by
  have g := h.eq hr
  refine ⟨fun k hk => ?_, fun l hl => ?_⟩
  · unfold SYN
    rw [h1, h2, h3]
    exact g.1 k hk
  · rw [h0, updA]
    by_cases e : l = j
    · rw [if_pos e, e, vN_eq, nI_toInt hw]
    · rw [if_neg e, vN_ne e]
      exact g.2 l hl
/-- at most so many messages are made at a delivery -/
theorem uP_le (k : Int32) : uP k ≤ 5 := by
  unfold uP
  repeat' split
  all_goals omega
theorem uL_le {j : Nat} : ∀ (n : Nat) (w : Vw), uL j n w ≤ 5 * n := by
  intro n
  induction n with
  | zero =>
    intro w
    exact Nat.le_refl _
  | succ n ih =>
    intro w
    unfold uL
    split
    · split
      · omega
      · have h1 := uP_le (mat w j 0 0)
        have h2 := ih (stp w j)
        omega
    · omega
theorem uH_le (h : SV v A N) (hk : k < (v.q 16).length) : uH v k ≤ 295 := by
  have hC := h.ci
  have hm := hC.2.2.1 _ (mat_mem hk)
  obtain ⟨l1, l2⟩ := len_rmv hk
  unfold uH
  split
  · unfold uR
    split
    · have hb := hC.2.2.2 (nat (mat v 16 k 1)) hm.1.2
      have h2 := uL_le (j := nat (mat v 16 k 1)) ((rmv v k).q (nat (mat v 16 k 1))).length (vFH (rmv v k) (nat (mat v 16 k 1)) 6 (nI 0))
      rw [l2 _ (by have := hm.1.2; omega)] at h2
      rw [l2 _ (by have := hm.1.2; omega)]
      omega
    · split
      · have := uP_le (mat v 16 k 0)
        omega
      · omega
  · omega
end LAWM
