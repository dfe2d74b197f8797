/-! ===== class and model side by side: what the caches do ===== -/
theorem nar_b {w : Int32} (h : w = 0 ∨ w = 1) : vp_nar .boolean w = w := by rcases h with rfl | rfl <;> rfl
theorem nar_0 : vp_nar .boolean (nI 0) = nI 0 := rfl
theorem nar_1 : vp_nar .boolean (nI 1) = nI 1 := rfl
theorem i32_add1 {a : Int32} (h : a.toInt < 2 ^ 31 - 1) : (a + nI 1).toInt = a.toInt + 1 := by
  rw [Int32.toInt_add, show (nI 1).toInt = 1 by decide]
  have := Int32.le_toInt a
  exact Int.bmod_eq_of_le (by omega) (by omega)
theorem i32_sub1 {a : Int32} (h : 0 ≤ a.toInt) : (a - nI 1).toInt = a.toInt - 1 := by
  rw [Int32.toInt_sub, show (nI 1).toInt = 1 by decide]
  have := Int32.toInt_lt a
  exact Int.bmod_eq_of_le (by omega) (by omega)
theorem mk_f {k1 k2 k3 k4 : Int32} : kd (mkM k1 k2 k3 k4) = k1.toInt ∧ ln (mkM k1 k2 k3 k4) = k2.toInt ∧ fr (mkM k1 k2 k3 k4) = k3.toInt ∧ tt (mkM k1 k2 k3 k4) = k4.toInt ∧ cn (mkM k1 k2 k3 k4) = 0 := ⟨rfl, rfl, rfl, rfl, rfl⟩
theorem t0 : (nI 0).toInt = 0 := by decide
theorem t1 : (nI 1).toInt = 1 := by decide
theorem t2 : (nI 2).toInt = 2 := by decide
theorem t3 : (nI 3).toInt = 3 := by decide
theorem tm1 : (-1 : Int32).toInt = -1 := by decide
theorem tj {j : Nat} (h : j < 16) : (nI j).toInt = (j : Int) := nI_toInt (by omega)
section OPS
variable {v : Vw} {x A : St} {R K S V W : Nat → Nat → Int} {O : Nat → List Nat} {H : Nat → Nat → Int} {q : Nat → List M7} {i j T : Nat}
theorem CE.gR (h : CE v A R K S V W O H q) (i m : Nat) : (v.x.FR i m).toInt = R i m := congrFun (congrFun h.2.1 i) m
theorem CE.gK (h : CE v A R K S V W O H q) (i m : Nat) (hm : m ≠ 7) : (v.x.FC i m).toInt = K i m := by
  have e := congrFun (congrFun h.2.2.1 i) m
  unfold cK at e
  rw [if_neg hm] at e
  exact e
theorem CE.gS (h : CE v A R K S V W O H q) (i j : Nat) : (v.x.AC i 0 j).toInt = S i j := congrFun (congrFun h.2.2.2.1 i) j
theorem CE.gV (h : CE v A R K S V W O H q) (i j : Nat) : (v.x.AC i 1 j).toInt = V i j := congrFun (congrFun h.2.2.2.2.1 i) j
theorem CE.gW (h : CE v A R K S V W O H q) (i j : Nat) : (v.x.AC i 2 j).toInt = W i j := congrFun (congrFun h.2.2.2.2.2.1 i) j
theorem CE.gH (h : CE v A R K S V W O H q) (j m : Nat) : (v.x.FH j m).toInt = H j m := congrFun (congrFun h.2.2.2.2.2.2.2.1 j) m
theorem CE.gq (h : CE v A R K S V W O H q) : v.q = q := h.2.2.2.2.2.2.2.2.1
theorem CE.wo (h : CE v A R K S V W O H q) (hi : i < 4) : WO v i := h.2.2.2.2.2.2.2.2.2 i hi
theorem CE.gO (h : CE v A R K S V W O H q) (hi : i < 4) : v.x.FC i 7 = nI (O i).length ∧ (O i).length ≤ 4 ∧ ∀ k a, (O i)[k]? = some a → v.x.AC i 3 k = nI a ∧ a < 16 := by
  have hw := h.wo hi
  have e : uO v i (nat (v.x.FC i 7)) = O i := congrFun h.2.2.2.2.2.2.1 i
  have hl : (O i).length = nat (v.x.FC i 7) := by rw [← e, uO_len]
  refine ⟨by rw [hl]; exact hw.1.1, by rw [hl]; exact hw.1.2, fun k a hk => ?_⟩
  have hkl := (List.getElem?_eq_some_iff.mp hk).1
  rw [← e] at hk
  unfold uO at hk
  rw [List.getElem?_map, List.getElem?_range (by omega), Option.map_some] at hk
  have := hw.2 k (by have := hw.1.2; omega)
  rw [← Option.some.inj hk]
  exact this
theorem MR.eqK {K' : Nat → Nat → Int} (h : MR x T R K S V W O H q) (hk : ∀ k n, n ≠ 8 → K' k n = K k n) : MR x T R K' S V W O H q := by
  obtain ⟨h1, h2, h3, h4, h5, h6, h7, h8⟩ := h
  exact ⟨fun k hk4 => by rw [hk k 9 (by decide), hk k 10 (by decide), hk k 12 (by decide), hk k 13 (by decide), hk k 11 (by decide)]; exact h1 k hk4, h2, h3, h4, h5, h6, h7, h8⟩
theorem moveOut_eq (h : ¬ v.x.AC i 0 j = nI 1) : s_X0_moveOut v i j = s_X0_drop (vsend (vFC (vAC v i 2 (upd (v.x.AC i 2) j (v.x.AC i 1 j))) i 8 (v.x.FC i 8 + nI 1)) (va_up (mkM (nI 3) (nI j) (nI i) (-1)) 4 (v.x.AC i 1 j))) i j := by
  have e : (vFC (vAC v i 2 (upd (v.x.AC i 2) j (v.x.AC i 1 j))) i 8 (v.x.FC i 8 + nI 1)).x.AC i 1 = v.x.AC i 1 := ac_ne (v := v) (i := i) (a := 2) (k := i) (b := 1) (fun e => by cases e.2)
  unfold s_X0_moveOut
  rw [if_neg h]
  show s_X0_drop (vsend (vFC (vAC v i 2 (upd (v.x.AC i 2) j (v.x.AC i 1 j))) i 8 (v.x.FC i 8 + nI 1)) (va_up (mkM (nI 3) (nI j) (nI i) (-1)) 4 ((vFC (vAC v i 2 (upd (v.x.AC i 2) j (v.x.AC i 1 j))) i 8 (v.x.FC i 8 + nI 1)).x.AC i 1 j))) i j = _
  rw [e]
theorem remove_eq (h : ¬ x.AM 2 (16 * i + j) = nI 1) : s_X6_remove x i j = (s_X6_send (x.setAM 5 (upd (x.AM 5) (16 * i + j) (x.AM 3 (16 * i + j)))) (nI 3) (nI j) (nI i) (-1) (x.AM 3 (16 * i + j)) (nI 0) (-1)).setAM 2 (upd ((s_X6_send (x.setAM 5 (upd (x.AM 5) (16 * i + j) (x.AM 3 (16 * i + j)))) (nI 3) (nI j) (nI i) (-1) (x.AM 3 (16 * i + j)) (nI 0) (-1)).AM 2) (16 * i + j) (nI 0)) := by
  unfold s_X6_remove
  rw [if_neg h]
  dsimp only
  rw [AM_ne (x := x) (r := 5) (q := 3) (by decide)]
/-- a line is moved out of a cache -/
theorem out_sim (hc : CE v A R K S V W O H q) (hI : InvC R K S V W O H (allq q)) (hM : MR x T R K S V W O H q) (hP : PLQ q) (hi : i < 4) (hj : j < 16) (hs : S i j ≠ 0) (hr : R i 0 ≠ (j : Int)) (hv : S i j = 1 ∨ K i 8 < K i 10) :
    ∃ K' S' V' W' q', CE (s_X0_moveOut v i j) A R K' S' V' W' (va_up O i (fl (O i) j)) H q' ∧ InvC R K' S' V' W' (va_up O i (fl (O i) j)) H (allq q') ∧ MR (s_X6_remove x i j) T R K' S' V' W' (va_up O i (fl (O i) j)) H q' ∧ PLQ q' ∧ (∀ k n, n ≠ 8 → K' k n = K k n) ∧ (∀ k n, ¬ (k = i ∧ n = j) → S' k n = S k n ∧ W' k n = W k n) := by
  have hlen := hI.len
  have hlw : (q 16).length ≤ 44 := by
    unfold allq at hlen
    rw [List.length_append] at hlen
    omega
  have cS := hc.gS i j
  have mS := (hM.2.2.1 i j hi hj).1
  have mV := (hM.2.2.1 i j hi hj).2.1 hs
  have hk8 := hI.2.2.2.2.1 i hi
  by_cases h1 : S i j = 1
  · refine ⟨K, w2 S i j 0, w2 V i j (-1), W, q, ?_, T_out1 hi hj hI h1, ?_, hP, fun _ _ _ => rfl, fun k n e => ⟨w2_ne e, rfl⟩⟩
    · unfold s_X0_moveOut
      rw [if_pos (i32_eq.mpr (by rw [cS, h1, t1]))]
      exact hc.drop hi hj
    · unfold s_X6_remove
      rw [if_pos (i32_eq.mpr (by rw [mS, h1, t1]))]
      exact hM.drop hj
  · have hv := hv.resolve_left h1
    have hk := hc.gK i 8 (by decide)
    have hadd : (v.x.FC i 8 + nI 1).toInt = K i 8 + 1 := by rw [i32_add1 (by omega), hk]
    have hw : (v.x.AC i 1 j).toInt = V i j := hc.gV i j
    have hwx : (x.AM 3 (16 * i + j)).toInt = V i j := mV
    have hm : x.AM 3 (16 * i + j) = v.x.AC i 1 j := i32_eq.mpr (by rw [hw, hwx])
    refine ⟨w2 K i 8 (K i 8 + 1), w2 S i j 0, w2 V i j (-1), w2 W i j (V i j), va_up q 16 (q 16 ++ [va_up (mkM (nI 3) (nI j) (nI i) (-1)) 4 (v.x.AC i 1 j)]), ?_, ?_, ?_, hP.way, fun k n e => w2_nj e, fun k n e => ⟨w2_ne e, w2_ne e⟩⟩
    · rw [moveOut_eq (fun e => h1 (by rw [← cS, e, t1]))]
      have c1 := (hc.sW (i := i) (j := j) (w := v.x.AC i 1 j)).sFC (i := i) (m := 8) (w := v.x.FC i 8 + nI 1) (by decide)
      rw [hw, hadd] at c1
      exact (c1.snd (m := va_up (mkM (nI 3) (nI j) (nI i) (-1)) 4 (v.x.AC i 1 j))).drop hi hj
    · refine (T_out2 (o := va_up (mkM (nI 3) (nI j) (nI i) (-1)) 4 (v.x.AC i 1 j)) hi hj hI hs h1 hr hv rfl (tj hj) (nI_toInt (by omega)) tm1 hw).perm ?_
      exact allq_send.symm
    · rw [remove_eq (fun e => h1 (by rw [← mS, e, t1]))]
      have m1 := hM.vic (i := i) (j := j) (w := x.AM 3 (16 * i + j)) hj
      rw [hwx] at m1
      exact MR.drop (MR.send (m1.eqK (fun k n e => w2_nj e)) (by omega) ⟨rfl, rfl, rfl, rfl, fun _ => hm, rfl, rfl⟩) hj
/-- the model opens a request -/
def mOpn (x : St) (i j : Nat) (w a : Int32) : St :=
  let x1 := x.setAM 7 (upd (x.AM 7) i ((x.AM 7 i) + (nI 1)))
  let x2 := x1.setAM 9 (upd (x1.AM 9) i (nI j))
  let x3 := x2.setAM 10 (upd (x2.AM 10) i (vp_nar .boolean w))
  let x4 := x3.setAM 11 (upd (x3.AM 11) i a)
  let x5 := x4.setAM 12 (upd (x4.AM 12) i (vp_nar .boolean (nI 0)))
  let x6 := x5.setAM 13 (upd (x5.AM 13) i (nI 0))
  let x7 := x6.setAM 14 (upd (x6.AM 14) i (nI 0))
  let x8 := x7.setAM 15 (upd (x7.AM 15) i (nI 0))
  x8
theorem mOpn_eq {w a : Int32} : mOpn x i j w a = (((((((x.setAM 7 (upd (x.AM 7) i (x.AM 7 i + nI 1))).setAM 9 (upd (x.AM 9) i (nI j))).setAM 10 (upd (x.AM 10) i (vp_nar .boolean w))).setAM 11 (upd (x.AM 11) i a)).setAM 12 (upd (x.AM 12) i (vp_nar .boolean (nI 0)))).setAM 13 (upd (x.AM 13) i (nI 0))).setAM 14 (upd (x.AM 14) i (nI 0))).setAM 15 (upd (x.AM 15) i (nI 0)) := by
  unfold mOpn
  simp only [AM_ne, ne_eq, Nat.reduceEqDiff, not_false_eq_true]
theorem mOpn_acc {w a : Int32} : (mOpn x i j w a).FM = x.FM ∧ (∀ r, (r < 7 ∨ r = 8 ∨ 16 ≤ r) → (mOpn x i j w a).AM r = x.AM r) ∧ (mOpn x i j w a).AM 7 = upd (x.AM 7) i (x.AM 7 i + nI 1) ∧ (mOpn x i j w a).AM 9 = upd (x.AM 9) i (nI j) ∧ (mOpn x i j w a).AM 10 = upd (x.AM 10) i (vp_nar .boolean w) ∧ (mOpn x i j w a).AM 11 = upd (x.AM 11) i a ∧ (mOpn x i j w a).AM 12 = upd (x.AM 12) i (vp_nar .boolean (nI 0)) ∧ (mOpn x i j w a).AM 13 = upd (x.AM 13) i (nI 0) ∧ (mOpn x i j w a).AM 14 = upd (x.AM 14) i (nI 0) ∧ (mOpn x i j w a).AM 15 = upd (x.AM 15) i (nI 0) := by
  rw [mOpn_eq]
  refine ⟨rfl, fun r hr => ?_, ?_, ?_, ?_, ?_, ?_, ?_, ?_, ?_⟩
  · rw [AM_ne (by omega), AM_ne (by omega), AM_ne (by omega), AM_ne (by omega), AM_ne (by omega), AM_ne (by omega), AM_ne (by omega), AM_ne (by omega)]
  all_goals simp only [AM_ne, AM_eq, ne_eq, Nat.reduceEqDiff, not_false_eq_true]
theorem MR.opn {w a : Int32} (h : MR x T R K S V W O H q) {z y2 : Int} (hz : (x.AM 7 i + nI 1).toInt = z) (hw : w = 0 ∨ w = 1) (hj : j < 16) (ha : w = 1 → a.toInt = y2) : MR (mOpn x i j w a) T (w2 (w2 (w2 (w2 (w2 R i 0 (j : Int)) i 1 w.toInt) i 2 y2) i 3 0) i 6 0) (w2 K i 13 z) S V W O H q := by
  obtain ⟨h1, h2, h3, h4, h5, h6, h7, h8⟩ := h
  obtain ⟨eF, eA, e7, e9, e10, e11, e12, e13, e14, e15⟩ := mOpn_acc (x := x) (i := i) (j := j) (w := w) (a := a)
  generalize mOpn x i j w a = y at eF eA e7 e9 e10 e11 e12 e13 e14 e15 ⊢
  generalize hR' : w2 (w2 (w2 (w2 (w2 R i 0 (j : Int)) i 1 w.toInt) i 2 y2) i 3 0) i 6 0 = R'
  have rn : ∀ k n, k ≠ i → R' k n = R k n := fun k n hi => by simp [← hR', w2, hi]
  have r0 : R' i 0 = (j : Int) := by simp [← hR', w2]
  have r1 : R' i 1 = w.toInt := by simp [← hR', w2]
  have r2 : R' i 2 = y2 := by simp [← hR', w2]
  have r3 : R' i 3 = 0 := by simp [← hR', w2]
  have r6 : R' i 6 = 0 := by simp [← hR', w2]
  clear hR'
  unfold MR
  rw [eF, eA 0 (by decide), eA 1 (by decide), eA 2 (by decide), eA 3 (by decide), eA 4 (by decide), eA 5 (by decide), eA 6 (by decide), e7, eA 8 (by decide), e9, e10, e11, e12, e13, e14, e15, eA 16 (by decide), eA 17 (by decide), eA 18 (by decide), eA 19 (by decide), eA 20 (by decide), eA 21 (by decide), eA 22 (by decide)]
  refine ⟨?_, ?_, h3, h4, h5, h6, h7, h8⟩
  · intro k hk
    obtain ⟨q1, q2, q3, q4, q5, q6⟩ := h1 k hk
    have n9 : w2 K i 13 z k 9 = K k 9 := w2_nj (by decide)
    have n10 : w2 K i 13 z k 10 = K k 10 := w2_nj (by decide)
    have n11 : w2 K i 13 z k 11 = K k 11 := w2_nj (by decide)
    have n12 : w2 K i 13 z k 12 = K k 12 := w2_nj (by decide)
    rw [n9, n10, n11, n12]
    by_cases e : k = i
    · subst e
      rw [upd_eq, upd_eq, w2_eq, r0]
      exact ⟨q1, q2, q3, hz, q5, tj hj⟩
    · rw [upd_ne e, upd_ne e, w2_ni e, rn k 0 e]
      exact ⟨q1, q2, q3, q4, q5, q6⟩
  · intro k hk hr
    by_cases e : k = i
    · subst e
      rw [upd_eq, upd_eq, upd_eq, upd_eq, upd_eq, upd_eq, r1, r2, r3, r6, nar_b hw, nar_0]
      exact ⟨rfl, fun e1 => ha (i32_eq.mpr e1), t0, fun e3 => absurd e3 (by decide), t0⟩
    · rw [upd_ne e, upd_ne e, upd_ne e, upd_ne e, upd_ne e, upd_ne e]
      rw [rn k 0 e] at hr
      rw [rn k 1 e, rn k 2 e, rn k 3 e, rn k 4 e, rn k 5 e, rn k 6 e]
      exact h2 k hk hr
/-- the class opens a request -/
def cOpn (v : Vw) (i j : Nat) (w tw : Int32) : Vw := s_X4_open (vFC v i 13 (v.x.FC i 13 + nI 1)) i (nI j) w tw
theorem CE.opn {w tw : Int32} (hc : CE v A R K S V W O H q) (hj : j < 16) : CE (cOpn v i j w tw) A (w2 (w2 (w2 (w2 (w2 R i 0 (j : Int)) i 1 w.toInt) i 2 tw.toInt) i 3 0) i 6 0) (w2 K i 13 (v.x.FC i 13 + nI 1).toInt) S V W O H q := by
  have c := ((((((hc.sFC (i := i) (m := 13) (w := v.x.FC i 13 + nI 1) (by decide)).sFR (i := i) (m := 0) (w := nI j)).sFR (i := i) (m := 1) (w := w)).sFR (i := i) (m := 2) (w := tw)).sFR (i := i) (m := 3) (w := nI 0)).sFR (i := i) (m := 6) (w := nI 0))
  rw [tj hj, t0] at c
  exact c
/-- a request is opened, where its line has its place -/
theorem open_sim {w tw a : Int32} (hc : CE v A R K S V W O H q) (hI : InvC R K S V W O H (allq q)) (hM : MR x T R K S V W O H q) (hP : PLQ q) (hi : i < 4) (hj : j < 16) (hr0 : R i 0 = -1) (hW : W i j = -1) (hw : (w = 0 ∧ S i j = 0) ∨ (w = 1 ∧ tw = a ∧ 0 ≤ a.toInt)) (hroom : S i j ≠ 0 ∨ ((O i).length : Int) < K i 9) :
    ∃ R' K' q', CE (if w = 0 then vsend (cOpn v i j w tw) (mkM (nI 1) (nI j) (nI i) (-1)) else vsend (cOpn v i j w tw) (mkM (nI 2) (nI j) (nI i) (-1))) A R' K' S V W O H q' ∧ InvC R' K' S V W O H (allq q') ∧
      MR (if w = 0 then s_X6_send (mOpn x i j w a) (nI 1) (nI j) (nI i) (-1) (nI 0) (nI 0) (-1) else s_X6_send (mOpn x i j w a) (nI 2) (nI j) (nI i) (-1) (nI 0) (nI 0) (-1)) T R' K' S V W O H q' ∧ PLQ q' := by
  have hlen := hI.len
  have hlw : (q 16).length ≤ 44 := by
    unfold allq at hlen
    rw [List.length_append] at hlen
    omega
  have e7 : x.AM 7 i = v.x.FC i 13 := i32_eq.mpr (by rw [(hM.1 i hi).2.2.2.1, hc.gK i 13 (by decide)])
  have hI2 : InvC R (w2 K i 13 (v.x.FC i 13 + nI 1).toInt) S V W O H (allq q) := hI.eqK (fun k => w2_nj (by decide)) (fun k => w2_nj (by decide)) (fun k => w2_nj (by decide))
  have c1 := hc.opn (i := i) (j := j) (w := w) (tw := tw) hj
  have m1 : MR (mOpn x i j w a) T (w2 (w2 (w2 (w2 (w2 R i 0 (j : Int)) i 1 w.toInt) i 2 tw.toInt) i 3 0) i 6 0) (w2 K i 13 (v.x.FC i 13 + nI 1).toInt) S V W O H q := MR.opn hM (by rw [e7]) (by rcases hw with h | h <;> simp [h.1]) hj (fun e => by
    rcases hw with h | h
    · rw [h.1] at e
      exact absurd e (by decide)
    · rw [h.2.1])
  have hroom2 : S i j ≠ 0 ∨ ((O i).length : Int) < w2 K i 13 (v.x.FC i 13 + nI 1).toInt i 9 := by
    rw [w2_nj (by decide)]
    exact hroom
  rcases hw with ⟨rfl, hs⟩ | ⟨rfl, rfl, ha⟩
  · rw [if_pos rfl, if_pos rfl]
    refine ⟨_, _, _, c1.snd, ?_, MR.send m1 (by omega) ⟨rfl, rfl, rfl, rfl, fun e => absurd e (by rw [show kd (mkM (nI 1) (nI j) (nI i) (-1)) = 1 from rfl]; decide), rfl, rfl⟩, hP.way⟩
    exact (T_open (o := mkM (nI 1) (nI j) (nI i) (-1)) (w := 0) hi hj hI2 hr0 hW (Or.inl ⟨rfl, hs⟩) hroom2 rfl (tj hj) (nI_toInt (by omega)) tm1).perm allq_send.symm
  · rw [if_neg (by decide), if_neg (by decide)]
    refine ⟨_, _, _, c1.snd, ?_, MR.send m1 (by omega) ⟨rfl, rfl, rfl, rfl, fun e => absurd e (by rw [show kd (mkM (nI 2) (nI j) (nI i) (-1)) = 2 from rfl]; decide), rfl, rfl⟩, hP.way⟩
    exact (T_open (o := mkM (nI 2) (nI j) (nI i) (-1)) (w := 1) hi hj hI2 hr0 hW (Or.inr ⟨rfl, ha⟩) hroom2 rfl (tj hj) (nI_toInt (by omega)) tm1).perm allq_send.symm
end OPS
