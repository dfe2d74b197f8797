/-! ===== class and model side by side: a home processes a message, the cases ===== -/
theorem bits {sh r own : Int32} {c j : Nat} (hs : 0 ≤ sh.toInt) (hs2 : sh.toInt < 16) (hc : c < 4) (hr : r = nI c) (ho : own = -1 ∨ ∃ d : Nat, d < 4 ∧ own = nI d) : bitc (ob sh r own) = nI (ivs (ob sh r own) j r 4).length ∧ ∀ n, n < 4 → ((((ob sh r own) >>> ((nI n) &&& 31)) &&& (nI 1)) = (nI 1) ↔ (¬ ((sh >>> ((nI n) &&& 31)) &&& (nI 1)) = 0 ∧ ¬ nI n = r ∧ ¬ nI n = own)) := by
  obtain ⟨s, hs3⟩ : ∃ s : Nat, sh.toInt = (s : Int) := ⟨sh.toInt.toNat, by omega⟩
  have hs4 : s < 16 := by omega
  have es : sh = nI s := i32_eq.mpr (by rw [hs3, nI_toInt (by omega)])
  have hlen : ∀ b : Int32, (ivs b j r 4).length = ((List.range 4).filter (bset b)).length := fun b => by
    unfold ivs
    rw [List.length_map]
  rw [hlen]
  rcases ho with ho | ⟨d, hd, ho⟩
  · have t := bits_tab ⟨s, hs4⟩ ⟨c, hc⟩ ⟨4, by decide⟩
    rw [if_pos rfl] at t
    subst es hr ho
    exact ⟨t.1, fun n hn => t.2 ⟨n, hn⟩⟩
  · have t := bits_tab ⟨s, hs4⟩ ⟨c, hc⟩ ⟨d, by omega⟩
    rw [if_neg (show ¬ d = 4 by omega)] at t
    subst es hr ho
    exact ⟨t.1, fun n hn => t.2 ⟨n, hn⟩⟩
theorem shs {sh r : Int32} {c : Nat} (hs : 0 ≤ sh.toInt) (hs2 : sh.toInt < 16) (hc : c < 4) (hr : r = nI c) : (0 ≤ (sh ||| ((nI 1) <<< (r &&& 31))).toInt ∧ (sh ||| ((nI 1) <<< (r &&& 31))).toInt < 16) ∧ (0 ≤ (sh &&& (((nI 1) <<< (r &&& 31)) ^^^ (-1))).toInt ∧ (sh &&& (((nI 1) <<< (r &&& 31)) ^^^ (-1))).toInt < 16) := by
  obtain ⟨s, hs3⟩ : ∃ s : Nat, sh.toInt = (s : Int) := ⟨sh.toInt.toNat, by omega⟩
  have hs4 : s < 16 := by omega
  have es : sh = nI s := i32_eq.mpr (by rw [hs3, nI_toInt (by omega)])
  subst es hr
  exact sh_tab ⟨s, hs4⟩ ⟨c, hc⟩
def mPut1 (x : St) (j : Nat) (a : Int32) : St :=
  let x17 := x.setAM 16 (upd (x.AM 16) j (x.AM 23 4))
  let x18 := x17.setAM 17 (upd (x17.AM 17) j ((-1 : Int32)))
  let x19 := x18.setAM 18 (upd (x18.AM 18) j ((x18.AM 18 j) &&& (((nI 1) <<< (a &&& 31)) ^^^ ((-1 : Int32)))))
  let x20 := x19.setFM 2 ((x19.FM 2) + (nI 1))
  x20
theorem mPut1_acc {x : St} {j : Nat} {a : Int32} : (∀ r, (r < 16 ∨ 19 ≤ r) → (mPut1 x j a).AM r = x.AM r) ∧ (mPut1 x j a).AM 16 = upd (x.AM 16) j (x.AM 23 4) ∧ (mPut1 x j a).AM 17 = upd (x.AM 17) j (-1) ∧ (mPut1 x j a).AM 18 = upd (x.AM 18) j ((x.AM 18 j) &&& (((nI 1) <<< (a &&& 31)) ^^^ (-1))) ∧ (∀ r, r ≠ 2 → (mPut1 x j a).FM r = x.FM r) ∧ (mPut1 x j a).FM 2 = x.FM 2 + nI 1 := by
  have e : mPut1 x j a = (((x.setAM 16 (upd (x.AM 16) j (x.AM 23 4))).setAM 17 (upd (x.AM 17) j (-1))).setAM 18 (upd (x.AM 18) j ((x.AM 18 j) &&& (((nI 1) <<< (a &&& 31)) ^^^ (-1))))).setFM 2 (x.FM 2 + nI 1) := by
    unfold mPut1
    simp only [AM_ne, ne_eq, Nat.reduceEqDiff, not_false_eq_true, St.FM_setAM]
  rw [e]
  refine ⟨fun r hr => ?_, ?_, ?_, ?_, fun r hr => ?_, ?_⟩
  · rw [St.AM_setFM, AM_ne (by omega), AM_ne (by omega), AM_ne (by omega)]
  · simp only [St.AM_setFM, AM_ne, AM_eq, ne_eq, Nat.reduceEqDiff, not_false_eq_true]
  · simp only [St.AM_setFM, AM_ne, AM_eq, ne_eq, Nat.reduceEqDiff, not_false_eq_true]
  · simp only [St.AM_setFM, AM_eq]
  · rw [FM_ne hr]
    rfl
  · exact FM_eq
section PROC
variable {v : Vw} {x y A : St} {R K S V W : Nat → Nat → Int} {O : Nat → List Nat} {H : Nat → Nat → Int} {q : Nat → List M7} {i j T c : Nat} {m : M7} {b r : Int32}
theorem way_len (hI : InvC R K S V W O H (m :: allq q)) : (q 16).length ≤ 44 := by
  have hlen := hI.len
  rw [List.length_cons] at hlen
  unfold allq at hlen
  rw [List.length_append] at hlen
  omega
theorem q_way {l : List M7} : ∀ k, k ≠ 16 → va_up q 16 l k = q k := fun k hk => va_up_ne _ _ hk
/-- PUT -/
theorem put_sim (hc : CE v A R K S V W O H q) (hI : InvC R K S V W O H (m :: allq q)) (hM : MR x T R K S V W O H q) (hP : PLQ q) (hj : j < 16) (hk : kd m = 3) (hl : ln m = (j : Int)) (hb : H j 6 = 0) (hrow : mrow (x.AM 23) m) : ∃ H' q', CE (s_X1_process v j m) A R K S V W O H' q' ∧ InvC R K S V W O H' (allq q') ∧ MR (s_X6_process x j (x.AM 23 2)) T R K S V W O H' q' ∧ PLQ q' ∧ (∀ k, k ≠ 16 → q' k = q k) := by
  have hlw := way_len hI
  obtain ⟨w0, w1, w2', w3, w4, w5, w6⟩ := hrow
  have hwf := hI.1 m List.mem_cons_self
  have h0 : m 0 = nI 3 := i32_eq.mpr hk
  obtain ⟨c, hf⟩ : ∃ c : Nat, fr m = (c : Int) := ⟨(fr m).toNat, by unfold wfm at hwf; omega⟩
  have hc4 : c < 4 := by unfold wfm at hwf; omega
  have e2 : m 2 = nI c := i32_eq.mpr (by rw [nI_toInt (by omega)]; exact hf)
  have g9 := hI.2.2.2.2.2.2.2.2.2.1 j hj
  have hsh : (v.x.FH j 5).toInt = H j 5 := hc.gH j 5
  have hx17 : x.AM 17 j = v.x.FH j 4 := i32_eq.mpr (by rw [(hM.2.2.2.2.1 j hj).2.1, hc.gH])
  have hx18 : x.AM 18 j = v.x.FH j 5 := i32_eq.mpr (by rw [(hM.2.2.2.2.1 j hj).2.2.1, hc.gH])
  have ho : kd (mkM (nI 11) (nI j) (-1) (m 2)) = 11 := rfl
  have hot : tt (mkM (nI 11) (nI j) (-1) (m 2)) = (c : Int) := hf
  have e1 : s_X1_process v j m = s_X1_processPut v j m := by
    unfold s_X1_process
    exact (if_neg (kne h0 (by decide))).trans ((if_neg (kne h0 (by decide))).trans ((if_pos h0).trans rfl))
  have hrow' : ∀ a : Int32, a = m 2 → nI 11 = (mkM (nI 11) (nI j) (-1) (m 2)) 0 ∧ nI j = (mkM (nI 11) (nI j) (-1) (m 2)) 1 ∧ (-1 : Int32) = (mkM (nI 11) (nI j) (-1) (m 2)) 2 ∧ a = (mkM (nI 11) (nI j) (-1) (m 2)) 3 ∧ ((kd (mkM (nI 11) (nI j) (-1) (m 2)) = 3 ∨ kd (mkM (nI 11) (nI j) (-1) (m 2)) = 5) → nI 0 = (mkM (nI 11) (nI j) (-1) (m 2)) 4) ∧ nI 0 = (mkM (nI 11) (nI j) (-1) (m 2)) 5 ∧ (-1 : Int32) = (mkM (nI 11) (nI j) (-1) (m 2)) 6 := fun a ha => ⟨rfl, rfl, rfl, ha, fun e => absurd e (by rw [ho]; decide), rfl, rfl⟩
  rw [e1]
  by_cases how : v.x.FH j 4 = m 2
  · have hH4 : H j 4 = (c : Int) := by rw [← hc.gH, how]; exact hf
    have c4 := ((hc.sFH (i := j) (m := 3) (w := m 4)).sFH (i := j) (m := 4) (w := -1))
    rw [tm1] at c4
    have z5 : (vFH (vFH v j 3 (m 4)) j 4 (-1)).x.FH j 5 = v.x.FH j 5 := i32_eq.mpr (by rw [c4.gH, hc.gH, w2_nj (by decide), w2_nj (by decide)])
    have hss := (shs (by omega) (by omega) hc4 e2 (sh := v.x.FH j 5)).2
    have c5 := c4.sFH (i := j) (m := 5) (w := (v.x.FH j 5) &&& (((nI 1) <<< ((m 2) &&& 31)) ^^^ (-1)))
    have z7 : (vFH (vFH (vFH v j 3 (m 4)) j 4 (-1)) j 5 ((v.x.FH j 5) &&& (((nI 1) <<< ((m 2) &&& 31)) ^^^ (-1)))).x.FH j 7 = v.x.FH j 7 := i32_eq.mpr (by rw [c5.gH, hc.gH, w2_nj (by decide), w2_nj (by decide), w2_nj (by decide)])
    have c7 := (c5.sFH (i := j) (m := 7) (w := v.x.FH j 7 + nI 1)).snd (m := mkM (nI 11) (nI j) (-1) (m 2))
    have e3 : s_X1_processPut v j m = vsend (vFH (vFH (vFH (vFH v j 3 (m 4)) j 4 (-1)) j 5 ((v.x.FH j 5) &&& (((nI 1) <<< ((m 2) &&& 31)) ^^^ (-1)))) j 7 (v.x.FH j 7 + nI 1)) (mkM (nI 11) (nI j) (-1) (m 2)) := by
      have : s_X1_processPut v j m = vsend (vFH (vFH (vFH (vFH v j 3 (m 4)) j 4 (-1)) j 5 (((vFH (vFH v j 3 (m 4)) j 4 (-1)).x.FH j 5) &&& (((nI 1) <<< ((m 2) &&& 31)) ^^^ (-1)))) j 7 ((vFH (vFH (vFH v j 3 (m 4)) j 4 (-1)) j 5 (((vFH (vFH v j 3 (m 4)) j 4 (-1)).x.FH j 5) &&& (((nI 1) <<< ((m 2) &&& 31)) ^^^ (-1)))).x.FH j 7 + nI 1)) (mkM (nI 11) (nI j) (-1) (m 2)) := by
        unfold s_X1_processPut
        exact (if_pos how).trans rfl
      rw [this, z5, z7]
    have e4 : s_X6_process x j (x.AM 23 2) = s_X6_send (mPut1 x j (x.AM 23 2)) (nI 11) (nI j) (-1) (x.AM 23 2) (nI 0) (nI 0) (-1) := by
      unfold s_X6_process mPut1
      exact (if_pos (w0.trans h0)).trans ((if_pos (hx17.trans (how.trans w2'.symm))).trans rfl)
    obtain ⟨p1, p2, p3, p4, p5, p6⟩ := mPut1_acc (x := x) (j := j) (a := x.AM 23 2)
    rw [e3, e4]
    have i1 := (T_put1 (o := mkM (nI 11) (nI j) (-1) (m 2)) hc4 hj hI hk hf hl hb hH4 _ hss.1 hss.2 ho (tj hj) hot).eqH (H' := w2 (w2 (w2 (w2 H j 3 (m 4).toInt) j 4 (-1)) j 5 ((v.x.FH j 5) &&& (((nI 1) <<< ((m 2) &&& 31)) ^^^ (-1))).toInt) j 7 (v.x.FH j 7 + nI 1).toInt) (fun k => w2_nj (by decide)) (fun k => w2_nj (by decide)) (fun k => w2_nj (by decide)) (fun k => w2_nj (by decide))
    have m1 : MR (mPut1 x j (x.AM 23 2)) T R K S V W O (w2 (w2 (w2 (w2 H j 3 (m 4).toInt) j 4 (-1)) j 5 ((v.x.FH j 5) &&& (((nI 1) <<< ((m 2) &&& 31)) ^^^ (-1))).toInt) j 7 (v.x.FH j 7 + nI 1).toInt) q := by
      refine hM.setH (fun r hr => p1 r (by omega)) (p5 1 (by decide)) (p5 4 (by decide)) ?_ (fun k hk => ?_)
      · obtain ⟨f2, f3⟩ := hM.mW
        refine ⟨?_, ?_⟩
        · rw [p6, f2]
          refine Eq.symm ((isum_upd (f := fun j => Int32.ofInt (H j 7)) (j := j) (w := nI 1) ?_ (fun k hk => ?_) 16).trans (if_pos hj))
          · simp only [w2_eq]
            rw [← hc.gH j 7, Int32.ofInt_toInt, Int32.ofInt_toInt]
          · simp only [w2_ni hk]
        · rw [p5 3 (by decide), f3]
          simp only [w2_nj (show (8:Nat) ≠ 7 by decide), w2_nj (show (8:Nat) ≠ 5 by decide), w2_nj (show (8:Nat) ≠ 4 by decide), w2_nj (show (8:Nat) ≠ 3 by decide)]
      · obtain ⟨z1, z2, z3, z4, -⟩ := hM.2.2.2.2.1 k hk
        rw [p2, p3, p4, p1 19 (by decide)]
        by_cases e : k = j
        · subst e
          rw [upd_eq, upd_eq, upd_eq, w4 (Or.inl ‹_›), hx18, w2']
          simp [w2]
          exact z4
        · rw [upd_ne e, upd_ne e, upd_ne e]
          simp only [w2_ni e]
          exact ⟨z1, z2, z3, z4⟩
    exact ⟨_, _, c7, i1.perm allq_send.symm, MR.send m1 (by omega) (hrow' _ w2'), hP.way, q_way⟩
  · have hH4 : H j 4 ≠ (c : Int) := fun e => how (i32_eq.mpr (by rw [hc.gH, e]; exact hf.symm))
    have e3 : s_X1_processPut v j m = vsend (vFH v j 8 (v.x.FH j 8 + nI 1)) (mkM (nI 11) (nI j) (-1) (m 2)) := by
      unfold s_X1_processPut
      exact (if_neg how).trans rfl
    have e4 : s_X6_process x j (x.AM 23 2) = s_X6_send (x.setFM 3 (x.FM 3 + nI 1)) (nI 11) (nI j) (-1) (x.AM 23 2) (nI 0) (nI 0) (-1) := by
      unfold s_X6_process
      exact (if_pos (w0.trans h0)).trans ((if_neg (fun e => how (hx17.symm.trans (e.trans w2')))).trans rfl)
    rw [e3, e4]
    have c7 := (hc.sFH (i := j) (m := 8) (w := v.x.FH j 8 + nI 1)).snd (m := mkM (nI 11) (nI j) (-1) (m 2))
    have i1 := (T_put0 (o := mkM (nI 11) (nI j) (-1) (m 2)) hc4 hj hI hk hf hl hb hH4 ho (tj hj) hot).eqH (H' := w2 H j 8 (v.x.FH j 8 + nI 1).toInt) (fun k => w2_nj (by decide)) (fun k => w2_nj (by decide)) (fun k => w2_nj (by decide)) (fun k => w2_nj (by decide))
    have m1 : MR (x.setFM 3 (x.FM 3 + nI 1)) T R K S V W O (w2 H j 8 (v.x.FH j 8 + nI 1).toInt) q := by
      refine hM.setH (fun r hr => rfl) (FM_ne (by decide)) (FM_ne (by decide)) ?_ (fun k hk => ?_)
      · obtain ⟨f2, f3⟩ := hM.mW
        rw [FM_ne (by decide), FM_eq]
        refine ⟨?_, ?_⟩
        · rw [f2]
          simp only [w2_nj (show (7:Nat) ≠ 8 by decide)]
        · rw [f3]
          refine Eq.symm ((isum_upd (f := fun j => Int32.ofInt (H j 8)) (j := j) (w := nI 1) ?_ (fun k hk => ?_) 16).trans (if_pos hj))
          · simp only [w2_eq]
            rw [← hc.gH j 8, Int32.ofInt_toInt, Int32.ofInt_toInt]
          · simp only [w2_ni hk]
      · obtain ⟨z1, z2, z3, z4, -⟩ := hM.2.2.2.2.1 k hk
        rw [w2_nj (by decide), w2_nj (by decide), w2_nj (by decide), w2_nj (by decide)]
        exact ⟨z1, z2, z3, z4⟩
    exact ⟨_, _, c7, i1.perm allq_send.symm, MR.send m1 (by omega) (hrow' _ w2'), hP.way, q_way⟩
end PROC
