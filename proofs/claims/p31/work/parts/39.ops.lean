/-! ===== what the caches do ===== -/
theorem i32_add1 {a : Int32} (h : a.toInt < 2 ^ 31 - 1) : (a + nI 1).toInt = a.toInt + 1 := by
  rw [Int32.toInt_add, show (nI 1).toInt = 1 by decide]
  have := Int32.le_toInt a
  exact Int.bmod_eq_of_le (by omega) (by omega)
theorem i32_sub1 {a : Int32} (h : 0 ≤ a.toInt) : (a - nI 1).toInt = a.toInt - 1 := by
  rw [Int32.toInt_sub, show (nI 1).toInt = 1 by decide]
  have := Int32.toInt_lt a
  exact Int.bmod_eq_of_le (by omega) (by omega)
theorem mk_f {k1 k2 k3 k4 : Int32} : kd (mkM k1 k2 k3 k4) = k1.toInt ∧ ln (mkM k1 k2 k3 k4) = k2.toInt ∧ fr (mkM k1 k2 k3 k4) = k3.toInt ∧ tt (mkM k1 k2 k3 k4) = k4.toInt ∧ cn (mkM k1 k2 k3 k4) = 0 := ⟨rfl, rfl, rfl, rfl, rfl⟩
theorem t0 : (nI 0).toInt = 0 := by decide
theorem t1 : (nI 1).toInt = 1 := by decide
theorem t2 : (nI 2).toInt = 2 := by decide
theorem t3 : (nI 3).toInt = 3 := by decide
theorem tm1 : (-1 : Int32).toInt = -1 := by decide
theorem tj {j : Nat} (h : j < 16) : (nI j).toInt = (j : Int) := nI_toInt (by omega)

section OPS
variable {v : Vw} {A : St} {R K S V W : Nat → Nat → Int} {O : Nat → List Nat} {H : Nat → Nat → Int} {N : Nat → Int} {q : Nat → List M7} {i j c d : Nat} {m : M7}
theorem CE.gR (h : CE v A R K S V W O H q) (i m : Nat) : (v.x.FR i m).toInt = R i m := congrFun (congrFun h.2.1 i) m
theorem CE.gK (h : CE v A R K S V W O H q) (i m : Nat) (hm : m ≠ 7) : (v.x.FC i m).toInt = K i m := by
  have e := congrFun (congrFun h.2.2.1 i) m
  unfold cK at e
  rw [if_neg hm] at e
  exact e
theorem CE.gS (h : CE v A R K S V W O H q) (i j : Nat) : (v.x.AC i 0 j).toInt = S i j := congrFun (congrFun h.2.2.2.1 i) j
theorem CE.gV (h : CE v A R K S V W O H q) (i j : Nat) : (v.x.AC i 1 j).toInt = V i j := congrFun (congrFun h.2.2.2.2.1 i) j
theorem CE.gW (h : CE v A R K S V W O H q) (i j : Nat) : (v.x.AC i 2 j).toInt = W i j := congrFun (congrFun h.2.2.2.2.2.1 i) j
theorem CE.gH (h : CE v A R K S V W O H q) (j m : Nat) : (v.x.FH j m).toInt = H j m := congrFun (congrFun h.2.2.2.2.2.2.2.1 j) m
theorem CE.gq (h : CE v A R K S V W O H q) : v.q = q := h.2.2.2.2.2.2.2.2.1
theorem CE.wo (h : CE v A R K S V W O H q) (hi : i < 4) : WO v i := h.2.2.2.2.2.2.2.2.2 i hi
theorem CE.gO (h : CE v A R K S V W O H q) (hi : i < 4) : v.x.FC i 7 = nI (O i).length ∧ (O i).length ≤ 4 ∧ ∀ k a, (O i)[k]? = some a → v.x.AC i 3 k = nI a ∧ a < 16 := by
  have hw := h.wo hi
  have e : uO v i (nat (v.x.FC i 7)) = O i := congrFun h.2.2.2.2.2.2.1 i
  have hl : (O i).length = nat (v.x.FC i 7) := by rw [← e, uO_len]
  refine ⟨by rw [hl]; exact hw.1.1, by rw [hl]; exact hw.1.2, fun k a hk => ?_⟩
  have hkl := (List.getElem?_eq_some_iff.mp hk).1
  rw [← e] at hk
  unfold uO at hk
  rw [List.getElem?_map, List.getElem?_range (by omega), Option.map_some] at hk
  have := hw.2 k (by have := hw.1.2; omega)
  rw [← Option.some.inj hk]
  exact this
theorem moveOut_eq (h : ¬ v.x.AC i 0 j = nI 1) : s_X0_moveOut v i j = s_X0_drop (vsend (vFC (vAC v i 2 (upd (v.x.AC i 2) j (v.x.AC i 1 j))) i 8 (v.x.FC i 8 + nI 1)) (va_up (mkM (nI 3) (nI j) (nI i) (-1)) 4 (v.x.AC i 1 j))) i j := by
  have e : (vFC (vAC v i 2 (upd (v.x.AC i 2) j (v.x.AC i 1 j))) i 8 (v.x.FC i 8 + nI 1)).x.AC i 1 = v.x.AC i 1 := ac_ne (v := v) (i := i) (a := 2) (k := i) (b := 1) (fun e => by cases e.2)
  unfold s_X0_moveOut
  rw [if_neg h]
  show s_X0_drop (vsend (vFC (vAC v i 2 (upd (v.x.AC i 2) j (v.x.AC i 1 j))) i 8 (v.x.FC i 8 + nI 1)) (va_up (mkM (nI 3) (nI j) (nI i) (-1)) 4 ((vFC (vAC v i 2 (upd (v.x.AC i 2) j (v.x.AC i 1 j))) i 8 (v.x.FC i 8 + nI 1)).x.AC i 1 j))) i j = _
  rw [e]
/-- the class opens a request -/
def cOpn (v : Vw) (i j : Nat) (w tw : Int32) : Vw := s_X4_open (vFC v i 13 (v.x.FC i 13 + nI 1)) i (nI j) w tw
theorem CE.opn {w tw : Int32} (hc : CE v A R K S V W O H q) (hj : j < 16) : CE (cOpn v i j w tw) A (w2 (w2 (w2 (w2 (w2 R i 0 (j : Int)) i 1 w.toInt) i 2 tw.toInt) i 3 0) i 6 0) (w2 K i 13 (v.x.FC i 13 + nI 1).toInt) S V W O H q := by
  have c := ((((((hc.sFC (i := i) (m := 13) (w := v.x.FC i 13 + nI 1) (by decide)).sFR (i := i) (m := 0) (w := nI j)).sFR (i := i) (m := 1) (w := w)).sFR (i := i) (m := 2) (w := tw)).sFR (i := i) (m := 3) (w := nI 0)).sFR (i := i) (m := 6) (w := nI 0))
  rw [tj hj, t0] at c
  exact c
/-- a line is moved out of a cache -/
theorem out_v (hc : CE v A R K S V W O H q) (hI : InvC R K S V W O H (allq q)) (hV : InvV N R S V W H (allq q)) (hP : PLQ q) (hi : i < 4) (hj : j < 16) (hs : S i j ≠ 0) (hr : R i 0 ≠ (j : Int)) (hv : S i j = 1 ∨ K i 8 < K i 10) :
    ∃ K' S' V' W' q', CE (s_X0_moveOut v i j) A R K' S' V' W' (va_up O i (fl (O i) j)) H q' ∧ InvC R K' S' V' W' (va_up O i (fl (O i) j)) H (allq q') ∧ InvV N R S' V' W' H (allq q') ∧ PLQ q' ∧ (∀ k n, n ≠ 8 → K' k n = K k n) ∧ (∀ k n, ¬ (k = i ∧ n = j) → S' k n = S k n ∧ W' k n = W k n) := by
  have cS := hc.gS i j
  have hk8 := hI.2.2.2.2.1 i hi
  by_cases h1 : S i j = 1
  · refine ⟨K, w2 S i j 0, w2 V i j (-1), W, q, ?_, T_out1 hi hj hI h1, V_drop hV, hP, fun _ _ _ => rfl, fun k n e => ⟨w2_ne e, rfl⟩⟩
    unfold s_X0_moveOut
    rw [if_pos (i32_eq.mpr (by rw [cS, h1, t1]))]
    exact hc.drop hi hj
  · have hv := hv.resolve_left h1
    have hk := hc.gK i 8 (by decide)
    have hadd : (v.x.FC i 8 + nI 1).toInt = K i 8 + 1 := by rw [i32_add1 (by omega), hk]
    have hw : (v.x.AC i 1 j).toInt = V i j := hc.gV i j
    refine ⟨w2 K i 8 (K i 8 + 1), w2 S i j 0, w2 V i j (-1), w2 W i j (V i j), va_up q 16 (q 16 ++ [va_up (mkM (nI 3) (nI j) (nI i) (-1)) 4 (v.x.AC i 1 j)]), ?_, ?_, ?_, hP.way, fun k n e => w2_nj e, fun k n e => ⟨w2_ne e, w2_ne e⟩⟩
    · rw [moveOut_eq (fun e => h1 (by rw [← cS, e, t1]))]
      have c1 := (hc.sW (i := i) (j := j) (w := v.x.AC i 1 j)).sFC (i := i) (m := 8) (w := v.x.FC i 8 + nI 1) (by decide)
      rw [hw, hadd] at c1
      exact (c1.snd (m := va_up (mkM (nI 3) (nI j) (nI i) (-1)) 4 (v.x.AC i 1 j))).drop hi hj
    · refine (T_out2 (o := va_up (mkM (nI 3) (nI j) (nI i) (-1)) 4 (v.x.AC i 1 j)) hi hj hI hs h1 hr hv rfl (tj hj) (nI_toInt (by omega)) tm1 hw).perm ?_
      exact allq_send.symm
    · refine (V_out2 (o := va_up (mkM (nI 3) (nI j) (nI i) (-1)) 4 (v.x.AC i 1 j)) hi hj hI hV hs rfl (tj hj) (nI_toInt (by omega)) hw).perm ?_
      exact allq_send.symm
/-- a request is opened, where its line has its place -/
theorem open_v {w tw : Int32} (hc : CE v A R K S V W O H q) (hI : InvC R K S V W O H (allq q)) (hV : InvV N R S V W H (allq q)) (hP : PLQ q) (hi : i < 4) (hj : j < 16) (hr0 : R i 0 = -1) (hW : W i j = -1) (hw : (w = 0 ∧ S i j = 0) ∨ (w = 1 ∧ 0 ≤ tw.toInt)) (hroom : S i j ≠ 0 ∨ ((O i).length : Int) < K i 9) :
    ∃ R' K' q', CE (if w = 0 then vsend (cOpn v i j w tw) (mkM (nI 1) (nI j) (nI i) (-1)) else vsend (cOpn v i j w tw) (mkM (nI 2) (nI j) (nI i) (-1))) A R' K' S V W O H q' ∧ InvC R' K' S V W O H (allq q') ∧ InvV N R' S V W H (allq q') ∧ PLQ q' ∧ (∀ k n, k ≠ i → R' k n = R k n) ∧ R' i 0 = (j : Int) ∧ R' i 1 = w.toInt ∧ R' i 2 = tw.toInt := by
  have hI2 : InvC R (w2 K i 13 (v.x.FC i 13 + nI 1).toInt) S V W O H (allq q) := hI.eqK (fun k => w2_nj (by decide)) (fun k => w2_nj (by decide)) (fun k => w2_nj (by decide))
  have c1 := hc.opn (i := i) (j := j) (w := w) (tw := tw) hj
  have hroom2 : S i j ≠ 0 ∨ ((O i).length : Int) < w2 K i 13 (v.x.FC i 13 + nI 1).toInt i 9 := by
    rw [w2_nj (by decide)]
    exact hroom
  have rr : ∀ k n, k ≠ i → (w2 (w2 (w2 (w2 (w2 R i 0 (j : Int)) i 1 w.toInt) i 2 tw.toInt) i 3 0) i 6 0) k n = R k n := fun k n e => by simp [w2, e]
  have rq : (w2 (w2 (w2 (w2 (w2 R i 0 (j : Int)) i 1 w.toInt) i 2 tw.toInt) i 3 0) i 6 0) i 0 = (j : Int) ∧ (w2 (w2 (w2 (w2 (w2 R i 0 (j : Int)) i 1 w.toInt) i 2 tw.toInt) i 3 0) i 6 0) i 1 = w.toInt ∧ (w2 (w2 (w2 (w2 (w2 R i 0 (j : Int)) i 1 w.toInt) i 2 tw.toInt) i 3 0) i 6 0) i 2 = tw.toInt := by simp [w2]
  rcases hw with ⟨rfl, hs⟩ | ⟨rfl, ha⟩
  · rw [if_pos rfl]
    refine ⟨_, _, _, c1.snd, ?_, ?_, hP.way, rr, rq.1, rq.2.1, rq.2.2⟩
    · exact (T_open (o := mkM (nI 1) (nI j) (nI i) (-1)) (w := 0) hi hj hI2 hr0 hW (Or.inl ⟨rfl, hs⟩) hroom2 rfl (tj hj) (nI_toInt (by omega)) tm1).perm allq_send.symm
    · exact (V_open (o := mkM (nI 1) (nI j) (nI i) (-1)) hi hI hV hr0 (Or.inl rfl) (nI_toInt (by omega))).perm allq_send.symm
  · rw [if_neg (by decide)]
    refine ⟨_, _, _, c1.snd, ?_, ?_, hP.way, rr, rq.1, rq.2.1, rq.2.2⟩
    · exact (T_open (o := mkM (nI 2) (nI j) (nI i) (-1)) (w := 1) hi hj hI2 hr0 hW (Or.inr ⟨rfl, ha⟩) hroom2 rfl (tj hj) (nI_toInt (by omega)) tm1).perm allq_send.symm
    · exact (V_open (o := mkM (nI 2) (nI j) (nI i) (-1)) hi hI hV hr0 (Or.inr rfl) (nI_toInt (by omega))).perm allq_send.symm
end OPS
