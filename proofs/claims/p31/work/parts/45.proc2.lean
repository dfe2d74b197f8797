/-! ===== a home processes a message, the cases ===== -/
theorem bits {sh r own : Int32} {c j : Nat} (hs : 0 ≤ sh.toInt) (hs2 : sh.toInt < 16) (hc : c < 4) (hr : r = nI c) (ho : own = -1 ∨ ∃ d : Nat, d < 4 ∧ own = nI d) : bitc (ob sh r own) = nI (ivs (ob sh r own) j r 4).length ∧ ∀ n, n < 4 → ((((ob sh r own) >>> ((nI n) &&& 31)) &&& (nI 1)) = (nI 1) ↔ (¬ ((sh >>> ((nI n) &&& 31)) &&& (nI 1)) = 0 ∧ ¬ nI n = r ∧ ¬ nI n = own)) := by
  obtain ⟨s, hs3⟩ : ∃ s : Nat, sh.toInt = (s : Int) := ⟨sh.toInt.toNat, by omega⟩
  have hs4 : s < 16 := by omega
  have es : sh = nI s := i32_eq.mpr (by rw [hs3, nI_toInt (by omega)])
  have hlen : ∀ b : Int32, (ivs b j r 4).length = ((List.range 4).filter (bset b)).length := fun b => by
    unfold ivs
    rw [List.length_map]
  rw [hlen]
  rcases ho with ho | ⟨d, hd, ho⟩
  · have t := bits_tab ⟨s, hs4⟩ ⟨c, hc⟩ ⟨4, by decide⟩
    rw [if_pos rfl] at t
    subst es hr ho
    exact ⟨t.1, fun n hn => t.2 ⟨n, hn⟩⟩
  · have t := bits_tab ⟨s, hs4⟩ ⟨c, hc⟩ ⟨d, by omega⟩
    rw [if_neg (show ¬ d = 4 by omega)] at t
    subst es hr ho
    exact ⟨t.1, fun n hn => t.2 ⟨n, hn⟩⟩
theorem shs {sh r : Int32} {c : Nat} (hs : 0 ≤ sh.toInt) (hs2 : sh.toInt < 16) (hc : c < 4) (hr : r = nI c) : (0 ≤ (sh ||| ((nI 1) <<< (r &&& 31))).toInt ∧ (sh ||| ((nI 1) <<< (r &&& 31))).toInt < 16) ∧ (0 ≤ (sh &&& (((nI 1) <<< (r &&& 31)) ^^^ (-1))).toInt ∧ (sh &&& (((nI 1) <<< (r &&& 31)) ^^^ (-1))).toInt < 16) := by
  obtain ⟨s, hs3⟩ : ∃ s : Nat, sh.toInt = (s : Int) := ⟨sh.toInt.toNat, by omega⟩
  have hs4 : s < 16 := by omega
  have es : sh = nI s := i32_eq.mpr (by rw [hs3, nI_toInt (by omega)])
  subst es hr
  exact sh_tab ⟨s, hs4⟩ ⟨c, hc⟩
section PROC
variable {v : Vw} {A : St} {R K S V W : Nat → Nat → Int} {O : Nat → List Nat} {H : Nat → Nat → Int} {N : Nat → Int} {q : Nat → List M7} {i j c d : Nat} {m : M7}
theorem q_way {l : List M7} : ∀ k, k ≠ 16 → va_up q 16 l k = q k := fun k hk => va_up_ne _ _ hk
/-- PUT -/
theorem put_v (hc : CE v A R K S V W O H q) (hI : InvC R K S V W O H (m :: allq q)) (hV : InvV N R S V W H (m :: allq q)) (hP : PLQ q) (hj : j < 16) (hk : kd m = 3) (hl : ln m = (j : Int)) (hb : H j 6 = 0) : ∃ H' q', CE (s_X1_process v j m) A R K S V W O H' q' ∧ InvC R K S V W O H' (allq q') ∧ InvV N R S V W H' (allq q') ∧ PLQ q' ∧ (∀ k, k ≠ 16 → q' k = q k) := by
  have hwf := hI.1 m List.mem_cons_self
  have h0 : m 0 = nI 3 := i32_eq.mpr hk
  obtain ⟨c, hf⟩ : ∃ c : Nat, fr m = (c : Int) := ⟨(fr m).toNat, by unfold wfm at hwf; omega⟩
  have hc4 : c < 4 := by unfold wfm at hwf; omega
  have e2 : m 2 = nI c := i32_eq.mpr (by rw [nI_toInt (by omega)]; exact hf)
  have g9 := hI.2.2.2.2.2.2.2.2.2.1 j hj
  have hsh : (v.x.FH j 5).toInt = H j 5 := hc.gH j 5
  have ho : kd (mkM (nI 11) (nI j) (-1) (m 2)) = 11 := rfl
  have hot : tt (mkM (nI 11) (nI j) (-1) (m 2)) = (c : Int) := hf
  have e1 : s_X1_process v j m = s_X1_processPut v j m := by
    unfold s_X1_process
    exact (if_neg (kne h0 (by decide))).trans ((if_neg (kne h0 (by decide))).trans ((if_pos h0).trans rfl))
  rw [e1]
  by_cases how : v.x.FH j 4 = m 2
  · have hH4 : H j 4 = (c : Int) := by rw [← hc.gH, how]; exact hf
    have c4 := ((hc.sFH (i := j) (m := 3) (w := m 4)).sFH (i := j) (m := 4) (w := -1))
    rw [tm1] at c4
    have z5 : (vFH (vFH v j 3 (m 4)) j 4 (-1)).x.FH j 5 = v.x.FH j 5 := i32_eq.mpr (by rw [c4.gH, hc.gH, w2_nj (by decide), w2_nj (by decide)])
    have hss := (shs (by omega) (by omega) hc4 e2 (sh := v.x.FH j 5)).2
    have hbt := bt_no (by omega) (by omega) hc4 e2 (sh := v.x.FH j 5)
    rw [hsh] at hbt
    have c5 := c4.sFH (i := j) (m := 5) (w := (v.x.FH j 5) &&& (((nI 1) <<< ((m 2) &&& 31)) ^^^ (-1)))
    have z7 : (vFH (vFH (vFH v j 3 (m 4)) j 4 (-1)) j 5 ((v.x.FH j 5) &&& (((nI 1) <<< ((m 2) &&& 31)) ^^^ (-1)))).x.FH j 7 = v.x.FH j 7 := i32_eq.mpr (by rw [c5.gH, hc.gH, w2_nj (by decide), w2_nj (by decide), w2_nj (by decide)])
    have c7 := (c5.sFH (i := j) (m := 7) (w := v.x.FH j 7 + nI 1)).snd (m := mkM (nI 11) (nI j) (-1) (m 2))
    have e3 : s_X1_processPut v j m = vsend (vFH (vFH (vFH (vFH v j 3 (m 4)) j 4 (-1)) j 5 ((v.x.FH j 5) &&& (((nI 1) <<< ((m 2) &&& 31)) ^^^ (-1)))) j 7 (v.x.FH j 7 + nI 1)) (mkM (nI 11) (nI j) (-1) (m 2)) := by
      have : s_X1_processPut v j m = vsend (vFH (vFH (vFH (vFH v j 3 (m 4)) j 4 (-1)) j 5 (((vFH (vFH v j 3 (m 4)) j 4 (-1)).x.FH j 5) &&& (((nI 1) <<< ((m 2) &&& 31)) ^^^ (-1)))) j 7 ((vFH (vFH (vFH v j 3 (m 4)) j 4 (-1)) j 5 (((vFH (vFH v j 3 (m 4)) j 4 (-1)).x.FH j 5) &&& (((nI 1) <<< ((m 2) &&& 31)) ^^^ (-1)))).x.FH j 7 + nI 1)) (mkM (nI 11) (nI j) (-1) (m 2)) := by
        unfold s_X1_processPut
        exact (if_pos how).trans rfl
      rw [this, z5, z7]
    rw [e3]
    have i1 := (T_put1 (o := mkM (nI 11) (nI j) (-1) (m 2)) hc4 hj hI hk hf hl hb hH4 _ hss.1 hss.2 ho (tj hj) hot).eqH (H' := w2 (w2 (w2 (w2 H j 3 (m 4).toInt) j 4 (-1)) j 5 ((v.x.FH j 5) &&& (((nI 1) <<< ((m 2) &&& 31)) ^^^ (-1))).toInt) j 7 (v.x.FH j 7 + nI 1).toInt) (fun k => w2_nj (by decide)) (fun k => w2_nj (by decide)) (fun k => w2_nj (by decide)) (fun k => w2_nj (by decide))
    have j1 := (V_put1 (o := mkM (nI 11) (nI j) (-1) (m 2)) hj hI hV hc4 hk hf hl hb hH4 _ hbt ho).eqH (H' := w2 (w2 (w2 (w2 H j 3 (m 4).toInt) j 4 (-1)) j 5 ((v.x.FH j 5) &&& (((nI 1) <<< ((m 2) &&& 31)) ^^^ (-1))).toInt) j 7 (v.x.FH j 7 + nI 1).toInt) (fun k => w2_nj (by decide)) (fun k => w2_nj (by decide)) (fun k => w2_nj (by decide))
    exact ⟨_, _, c7, i1.perm allq_send.symm, j1.perm allq_send.symm, hP.way, q_way⟩
  · have hH4 : H j 4 ≠ (c : Int) := fun e => how (i32_eq.mpr (by rw [hc.gH, e]; exact hf.symm))
    have e3 : s_X1_processPut v j m = vsend (vFH v j 8 (v.x.FH j 8 + nI 1)) (mkM (nI 11) (nI j) (-1) (m 2)) := by
      unfold s_X1_processPut
      exact (if_neg how).trans rfl
    rw [e3]
    have c7 := (hc.sFH (i := j) (m := 8) (w := v.x.FH j 8 + nI 1)).snd (m := mkM (nI 11) (nI j) (-1) (m 2))
    have i1 := (T_put0 (o := mkM (nI 11) (nI j) (-1) (m 2)) hc4 hj hI hk hf hl hb hH4 ho (tj hj) hot).eqH (H' := w2 H j 8 (v.x.FH j 8 + nI 1).toInt) (fun k => w2_nj (by decide)) (fun k => w2_nj (by decide)) (fun k => w2_nj (by decide)) (fun k => w2_nj (by decide))
    have j1 := (V_more (o := mkM (nI 11) (nI j) (-1) (m 2)) (Or.inr (Or.inr (Or.inr ho))) (V_less (Or.inl hk) hV)).eqH (H' := w2 H j 8 (v.x.FH j 8 + nI 1).toInt) (fun k => w2_nj (by decide)) (fun k => w2_nj (by decide)) (fun k => w2_nj (by decide))
    exact ⟨_, _, c7, i1.perm allq_send.symm, j1.perm allq_send.symm, hP.way, q_way⟩
end PROC
