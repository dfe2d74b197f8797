/-! ===== class and model side by side: the calls of the caches ===== -/
/-- class v and model x stand alike; at most T uses were counted -/
def SM (v : Vw) (x A : St) (T : Nat) : Prop := ∃ R K S V W O H q, CE v A R K S V W O H q ∧ InvC R K S V W O H (allq q) ∧ MR x T R K S V W O H q ∧ PLQ q
/-- a cache may read or write a line -/
def acc (v : Vw) (i j : Nat) : Prop := v.x.FR i 0 = -1 ∧ v.x.AC i 2 j = -1 ∧ (nI (r_X0_needsWayFor v i j) = 0 ∨ nI (r_X0_lacksVictimRoomFor v i (nat (v.x.AC i 3 0))) = 0)
/-- what leaves the model's word on refusals alone -/
theorem send_FM0 {y : St} {a1 a2 a3 a4 a5 a6 a7 : Int32} : (s_X6_send y a1 a2 a3 a4 a5 a6 a7).FM 0 = y.FM 0 := send_FM (by decide)
theorem remove_FM0 {x : St} {i j : Nat} : (s_X6_remove x i j).FM 0 = x.FM 0 := by
  by_cases h : x.AM 2 (16 * i + j) = nI 1
  · unfold s_X6_remove
    rw [if_pos h]
    rfl
  · rw [remove_eq h, St.FM_setAM, send_FM0, St.FM_setAM]
theorem start_FM0 {x : St} {i j : Nat} {w a : Int32} : (s_X6_start x i j w a).FM 0 = x.FM 0 := by
  rw [show s_X6_start x i j w a = if (r_X6_leaving x i j) = (-1 : Int32) then (if w = 0 then s_X6_send (mOpn x i j w a) (nI 1) (nI j) (nI i) (-1) (nI 0) (nI 0) (-1) else s_X6_send (mOpn x i j w a) (nI 2) (nI j) (nI i) (-1) (nI 0) (nI 0) (-1)) else (if w = 0 then s_X6_send (mOpn (s_X6_remove x i (nat (r_X6_leaving x i j))) i j w a) (nI 1) (nI j) (nI i) (-1) (nI 0) (nI 0) (-1) else s_X6_send (mOpn (s_X6_remove x i (nat (r_X6_leaving x i j))) i j w a) (nI 2) (nI j) (nI i) (-1) (nI 0) (nI 0) (-1)) from by unfold s_X6_start mOpn; rfl]
  split <;> split <;> rw [send_FM0, mOpn_acc.1]
  · exact remove_FM0
  · exact remove_FM0
section CALLS
variable {v : Vw} {x A : St} {R K S V W : Nat → Nat → Int} {O : Nat → List Nat} {H : Nat → Nat → Int} {q : Nat → List M7} {i j T : Nat}
theorem MR.mono {T' : Nat} (h : MR x T R K S V W O H q) (hT : T ≤ T') : MR x T' R K S V W O H q := by
  obtain ⟨h1, h2, h3, ⟨g1, g2, g3⟩, h5, h6, h7, h8⟩ := h
  exact ⟨h1, h2, h3, ⟨g1, by omega, g3⟩, h5, h6, h7, h8⟩
theorem SM.mono {T' : Nat} (h : SM v x A T) (hT : T ≤ T') : SM v x A T' := by
  obtain ⟨R, K, S, V, W, O, H, q, h1, h2, h3, h4⟩ := h
  exact ⟨R, K, S, V, W, O, H, q, h1, h2, h3.mono hT, h4⟩
theorem b01 {p : Prop} [Decidable p] : nI (if p then 0 else 1) = 0 ↔ p := by
  by_cases h : p
  · rw [if_pos h]
    exact ⟨fun _ => h, fun _ => rfl⟩
  · rw [if_neg h]
    exact ⟨fun e => absurd e (by decide), fun e => (h e).elim⟩
theorem holds_iff (hc : CE v A R K S V W O H q) : nI (r_X0_holds v i j) = 0 ↔ S i j = 0 := by
  unfold r_X0_holds
  rw [b01, i32_eq, hc.gS]
  rfl
theorem nw_iff (hc : CE v A R K S V W O H q) (hi : i < 4) : nI (r_X0_needsWayFor v i j) = 0 ↔ (S i j ≠ 0 ∨ ((O i).length : Int) < K i 9) := by
  unfold r_X0_needsWayFor
  have e := holds_iff (i := i) (j := j) hc
  obtain ⟨g1, g2, -⟩ := hc.gO hi
  by_cases h : S i j = 0
  · rw [if_pos (e.mpr h), b01, Int32.lt_iff_toInt_lt, g1, nI_toInt (by omega), hc.gK i 9 (by decide)]
    exact ⟨fun q => Or.inr q, fun q => q.resolve_left (fun z => z h)⟩
  · rw [if_neg (fun q => h (e.mp q))]
    exact ⟨fun _ => Or.inl h, fun _ => rfl⟩
theorem lk_iff (hc : CE v A R K S V W O H q) : nI (r_X0_lacksVictimRoomFor v i j) = 0 ↔ (S i j = 1 ∨ K i 8 < K i 10) := by
  unfold r_X0_lacksVictimRoomFor
  by_cases h : S i j = 1
  · rw [if_pos (i32_eq.mpr (by rw [hc.gS, h, t1]))]
    exact ⟨fun _ => Or.inl h, fun _ => rfl⟩
  · rw [if_neg (fun q => h (by rw [← hc.gS, q, t1])), b01, Int32.lt_iff_toInt_lt, hc.gK i 8 (by decide), hc.gK i 10 (by decide)]
    exact ⟨fun q => Or.inr q, fun q => q.resolve_left h⟩
theorem sN0 (hI : InvC R K S V W O H (allq q)) (hi : i < 4) : ∀ j : Nat, j < 16 → 0 ≤ S i j := fun j hj => (hI.2.2.2.2.2.2.1 i hi j hj).1
theorem rm_iff (hI : InvC R K S V W O H (allq q)) (hM : MR x T R K S V W O H q) (hi : i < 4) (hj : j < 16) : nI (r_X6_canRemove x i j) = 0 ↔ ¬ (S i j = 1 ∨ K i 8 < K i 10) := by
  unfold r_X6_canRemove
  have k8 := hI.2.2.2.2.1 i hi
  have e : r_X6_victimsIn x i = (List.range 16).countP (fun j => decide (W i j ≠ -1)) := vic_lp hM.2.2.1 hi (fun j hj => (hI.2.2.2.1 i hi j hj).1) 16 (Nat.le_refl _)
  by_cases h : S i j = 1
  · rw [if_pos (i32_eq.mpr (by rw [(hM.2.2.1 i j hi hj).1, h, t1]))]
    exact ⟨fun e => absurd e (by decide), fun e => (e (Or.inl h)).elim⟩
  · rw [if_neg (fun q => h (by rw [← (hM.2.2.1 i j hi hj).1, q, t1])), b01, Int32.le_iff_toInt_le, (hM.1 i hi).2.1, e, nI_toInt (by omega), ← k8.1]
    omega
theorem lv_eq (hc : CE v A R K S V W O H q) (hI : InvC R K S V W O H (allq q)) (hM : MR x T R K S V W O H q) (hi : i < 4) (hj : j < 16) (hr0 : R i 0 = -1) : ((S i j ≠ 0 ∨ ((O i).length : Int) < K i 9) → r_X6_leaving x i j = -1) ∧ (¬ (S i j ≠ 0 ∨ ((O i).length : Int) < K i 9) → ∃ a, (O i)[0]? = some a ∧ r_X6_leaving x i j = nI a ∧ nat (v.x.AC i 3 0) = a ∧ a < 16 ∧ S i a ≠ 0 ∧ ((O i).length : Int) = K i 9) := by
  have h5 := hI.2.2.2.2.2.1 i hi
  have hl := lines_eq hM.2.2.1 hi (sN0 hI hi) h5
  obtain ⟨g1, g2, g3⟩ := hc.gO hi
  have h5' := h5
  obtain ⟨o1, o2, o3, o4, o5⟩ := h5
  rw [flt_m hr0, if_pos hr0] at o3
  unfold r_X6_leaving
  have eS : (x.AM 2 (16 * i + j) = 0) ↔ S i j = 0 := by
    rw [i32_eq, (hM.2.2.1 i j hi hj).1]
    rfl
  have eW : (nI (r_X6_linesIn x i) = x.AM 0 i) ↔ ((O i).length : Int) = K i 9 := by
    rw [i32_eq, hl, nI_toInt (by omega), (hM.1 i hi).1]
  refine ⟨fun h => ?_, fun h => ?_⟩
  · rcases h with h | h
    · rw [if_neg (fun q => h (eS.mp q))]
    · by_cases hs : S i j = 0
      · rw [if_pos (eS.mpr hs), if_neg (fun q => by have := eW.mp q; omega)]
      · rw [if_neg (fun q => hs (eS.mp q))]
  · have hs : S i j = 0 := Decidable.byContradiction fun q => h (Or.inl q)
    have hk : ((O i).length : Int) = K i 9 := by
      have : ¬ ((O i).length : Int) < K i 9 := fun q => h (Or.inr q)
      omega
    rw [if_pos (eS.mpr hs), if_pos (eW.mpr hk)]
    have h0 : 0 < (O i).length := by omega
    have e0 : (O i)[0]? = some (O i)[0] := List.getElem?_eq_getElem h0
    refine ⟨(O i)[0], e0, (lineBy_eq hM.2.2.1 hi (sN0 hI hi) h5' hM.2.2.2.1).1 0 _ e0 rfl, ?_, (g3 0 _ e0).2, ?_, hk⟩
    · rw [(g3 0 _ e0).1, nat_nI (by have := (g3 0 _ e0).2; omega)]
    · exact ((o2 _).mp (List.mem_of_getElem? e0)).2
theorem nn16 {w : Int32} {i : Nat} (hi : i < 16) (h : w = nI i) : ¬ w = -1 := fun e => by
  have := i32_eq.mp (h.symm.trans e)
  rw [nI_toInt (by omega), tm1] at this
  omega
theorem cs_iff (hc : CE v A R K S V W O H q) (hI : InvC R K S V W O H (allq q)) (hM : MR x T R K S V W O H q) (hi : i < 4) (hj : j < 16) (hr0 : R i 0 = -1) : nI (r_X6_canStart x i j) = 0 ↔ ¬ (nI (r_X0_needsWayFor v i j) = 0 ∨ nI (r_X0_lacksVictimRoomFor v i (nat (v.x.AC i 3 0))) = 0) := by
  obtain ⟨l1, l2⟩ := lv_eq hc hI hM hi hj hr0
  unfold r_X6_canStart
  by_cases h : S i j ≠ 0 ∨ ((O i).length : Int) < K i 9
  · rw [if_pos (l1 h)]
    exact ⟨fun e => absurd e (by decide), fun e => (e (Or.inl ((nw_iff hc hi).mpr h))).elim⟩
  · obtain ⟨a, a1, a2, a3, a4, a5, a6⟩ := l2 h
    rw [a2, if_neg (nn16 a4 rfl)]
    rw [nat_nI (by omega), a3, lk_iff hc, nw_iff hc hi]
    by_cases h2 : nI (r_X6_canRemove x i a) = 0
    · rw [if_pos h2]
      have := (rm_iff hI hM hi a4).mp h2
      exact ⟨fun _ z => z.elim h this, fun _ => rfl⟩
    · rw [if_neg h2]
      have : S i a = 1 ∨ K i 8 < K i 10 := Decidable.byContradiction fun z => h2 ((rm_iff hI hM hi a4).mpr z)
      exact ⟨fun e => absurd e (by decide), fun z => (z (Or.inr this)).elim⟩
theorem cstart_eq {w tw : Int32} : s_X0_startRequest v i j w tw = if (nI (r_X0_needsWayFor v i j)) = 0 then (if w = 0 then vsend (cOpn v i j w tw) (mkM (nI 1) (nI j) (nI i) (-1)) else vsend (cOpn v i j w tw) (mkM (nI 2) (nI j) (nI i) (-1))) else (if w = 0 then vsend (cOpn (s_X0_moveOut v i (nat (v.x.AC i 3 0))) i j w tw) (mkM (nI 1) (nI j) (nI i) (-1)) else vsend (cOpn (s_X0_moveOut v i (nat (v.x.AC i 3 0))) i j w tw) (mkM (nI 2) (nI j) (nI i) (-1))) := by
  unfold s_X0_startRequest cOpn
  rfl
theorem mstart_eq {w a : Int32} : s_X6_start x i j w a = if (r_X6_leaving x i j) = (-1 : Int32) then (if w = 0 then s_X6_send (mOpn x i j w a) (nI 1) (nI j) (nI i) (-1) (nI 0) (nI 0) (-1) else s_X6_send (mOpn x i j w a) (nI 2) (nI j) (nI i) (-1) (nI 0) (nI 0) (-1)) else (if w = 0 then s_X6_send (mOpn (s_X6_remove x i (nat (r_X6_leaving x i j))) i j w a) (nI 1) (nI j) (nI i) (-1) (nI 0) (nI 0) (-1) else s_X6_send (mOpn (s_X6_remove x i (nat (r_X6_leaving x i j))) i j w a) (nI 2) (nI j) (nI i) (-1) (nI 0) (nI 0) (-1)) := by
  unfold s_X6_start mOpn
  rfl
/-- a request is started -/
theorem start_sim {w tw a : Int32} (hc : CE v A R K S V W O H q) (hI : InvC R K S V W O H (allq q)) (hM : MR x T R K S V W O H q) (hP : PLQ q) (hi : i < 4) (hj : j < 16) (hr0 : R i 0 = -1) (hW : W i j = -1) (hw : (w = 0 ∧ S i j = 0) ∨ (w = 1 ∧ tw = a ∧ 0 ≤ a.toInt)) (hroom : nI (r_X0_needsWayFor v i j) = 0 ∨ nI (r_X0_lacksVictimRoomFor v i (nat (v.x.AC i 3 0))) = 0) :
    SM (s_X0_startRequest v i j w tw) (s_X6_start x i j w a) A T := by
  obtain ⟨l1, l2⟩ := lv_eq hc hI hM hi hj hr0
  rw [cstart_eq, mstart_eq]
  by_cases h : S i j ≠ 0 ∨ ((O i).length : Int) < K i 9
  · rw [if_pos ((nw_iff hc hi).mpr h), if_pos (l1 h)]
    obtain ⟨R', K', q', c1, c2, c3, c4⟩ := open_sim hc hI hM hP hi hj hr0 hW hw h
    exact ⟨R', K', S, V, W, O, H, q', c1, c2, c3, c4⟩
  · obtain ⟨b, a1, a2, a3, a4, a5, a6⟩ := l2 h
    rw [if_neg (fun e => h ((nw_iff hc hi).mp e)), a2, if_neg (nn16 a4 rfl), nat_nI (by omega), a3]
    have hv : S i b = 1 ∨ K i 8 < K i 10 := by
      rcases hroom with e | e
      · exact (h ((nw_iff hc hi).mp e)).elim
      · rw [a3] at e
        exact (lk_iff hc).mp e
    have hs : S i j = 0 := Decidable.byContradiction fun z => h (Or.inl z)
    have hjb : j ≠ b := fun e => a5 (e ▸ hs)
    obtain ⟨K', S', V', W', q', c1, c2, c3, c4, c5, c6⟩ := out_sim hc hI hM hP hi a4 a5 (by omega) hv
    have e6 := c6 i j (fun e => hjb e.2)
    have hlen := fl_len (hI.2.2.2.2.2.1 i hi).1 (List.mem_of_getElem? a1)
    obtain ⟨R'', K'', q'', d1, d2, d3, d4⟩ := open_sim (w := w) (tw := tw) (a := a) c1 c2 c3 c4 hi hj hr0 (by rw [e6.2]; exact hW) (by rw [e6.1]; exact hw) (Or.inr (by rw [va_up_self, c5 i 9 (by decide)]; omega))
    exact ⟨R'', K'', S', V', W', _, H, q'', d1, d2, d3, d4⟩
theorem acc_iff (hc : CE v A R K S V W O H q) : acc v i j ↔ R i 0 = -1 ∧ W i j = -1 ∧ (nI (r_X0_needsWayFor v i j) = 0 ∨ nI (r_X0_lacksVictimRoomFor v i (nat (v.x.AC i 3 0))) = 0) := by
  unfold acc
  rw [i32_eq, hc.gR, i32_eq, hc.gW, tm1]
theorem use_len (hI : InvC R K S V W O H (allq q)) (hi : i < 4) (hj : j < 16) (hr0 : R i 0 = -1) (hs : S i j ≠ 0) : (fl (O i) j).length ≤ 3 := by
  obtain ⟨o1, o2, o3, o4, o5⟩ := hI.2.2.2.2.2.1 i hi
  rw [flt_m hr0, if_pos hr0] at o3
  have := fl_len o1 ((o2 j).mpr ⟨hj, hs⟩)
  omega
/-- a call read that is allowed -/
theorem read_sim (hT : T < 2 ^ 31 - 1) (h : SM v x A T) (hi : i < 4) (hj : j < 16) (ha : acc v i j) : SM (s_X5_read v i j) (s_X6_read_ok x i j) A (T + 1) ∧ (s_X6_read_ok x i j).FM 0 = nI 0 ∧ r_X6_read_ok x i j = r_X5_read v i j := by
  obtain ⟨R, K, S, V, W, O, H, q, hc, hI, hM, hP⟩ := h
  have ha1 := ha
  rw [acc_iff hc] at ha
  obtain ⟨h1, h2, h3⟩ := ha
  have hM0 : MR (x.setFM 0 (nI 0)) T R K S V W O H q := hM.fm0
  have e9 : (x.setFM 0 (nI 0)).AM 9 i = -1 := i32_eq.mpr (by rw [(hM0.1 i hi).2.2.2.2.2, h1, tm1])
  have e5 : (x.setFM 0 (nI 0)).AM 5 (16 * i + j) < 0 := i32_lt0.mpr (by rw [(hM0.2.2.1 i j hi hj).2.2, h2]; decide)
  have eS := (hM0.2.2.1 i j hi hj).1
  have e2 : (x.setFM 0 (nI 0)).AM 2 (16 * i + j) ≤ 0 ↔ S i j = 0 := by
    rw [i32_le0, eS]
    have := sN0 hI hi j hj
    omega
  unfold s_X6_read_ok r_X6_read_ok s_X5_read r_X5_read
  dsimp only
  rw [if_pos e9, if_pos e5, if_pos e9, if_pos e5]
  by_cases hs : S i j = 0
  · rw [if_pos (e2.mpr hs), if_pos (e2.mpr hs), if_pos ((holds_iff hc).mpr hs), if_pos ((holds_iff hc).mpr hs)]
    have hcs : ¬ nI (r_X6_canStart (x.setFM 0 (nI 0)) i j) = 0 := fun e => (cs_iff hc hI hM0 hi hj h1).mp e h3
    rw [if_neg hcs, if_neg hcs]
    refine ⟨(start_sim (w := nI 0) (tw := -1) (a := nI 0) hc hI hM0 hP hi hj h1 h2 (Or.inl ⟨rfl, hs⟩) h3).mono (Nat.le_succ _), ?_, rfl⟩
    exact start_FM0
  · have hh := fun e => hs ((holds_iff (i := i) (j := j) hc).mp e)
    rw [if_neg (fun e => hs (e2.mp e)), if_neg (fun e => hs (e2.mp e)), if_neg hh, if_neg hh]
    have hl := use_len hI hi hj h1 hs
    have hmV := (hM.2.2.1 i j hi hj).2.1 hs
    have e6 : x.AM 6 i = v.x.FC i 12 := i32_eq.mpr (by rw [(hM.1 i hi).2.2.1, hc.gK i 12 (by decide)])
    have c1 := (hc.sFC (i := i) (m := 12) (w := v.x.FC i 12 + nI 1) (by decide)).mark hi hj hl
    have hv := hI.2.2.2.2.2.2.1 i hi j hj
    have i1 := T_use (v := V i j) hi hj hI h1 hs (hv.2.2.2.1 hs)
    have eV : w2 V i j (V i j) = V := by
      funext k n
      unfold w2
      split
      · rename_i e
        rw [e.1, e.2]
      · rfl
    rw [eV] at i1
    have m1 : MR (s_X6_use ((x.setFM 0 (nI 0)).setAM 6 (upd ((x.setFM 0 (nI 0)).AM 6) i ((x.setFM 0 (nI 0)).AM 6 i + nI 1))) i j) (T + 1) R (w2 K i 12 (v.x.FC i 12 + nI 1).toInt) S V W (va_up O i (fl (O i) j ++ [j])) H q := by
      refine MR.use ?_ hj hT
      obtain ⟨g1, g2, g3, g4, g5, g6, g7, g8⟩ := hM0
      refine ⟨fun k hk => ?_, g2, g3, g4, g5, g6, g7, g8⟩
      obtain ⟨q1, q2, q3, q4, q5, q6⟩ := g1 k hk
      have n9 : w2 K i 12 (v.x.FC i 12 + nI 1).toInt k 9 = K k 9 := w2_nj (by decide)
      have n10 : w2 K i 12 (v.x.FC i 12 + nI 1).toInt k 10 = K k 10 := w2_nj (by decide)
      have n11 : w2 K i 12 (v.x.FC i 12 + nI 1).toInt k 11 = K k 11 := w2_nj (by decide)
      have n13 : w2 K i 12 (v.x.FC i 12 + nI 1).toInt k 13 = K k 13 := w2_nj (by decide)
      rw [n9, n10, n11, n13]
      refine ⟨q1, q2, ?_, q4, q5, q6⟩
      show (upd (x.AM 6) i (x.AM 6 i + nI 1) k).toInt = _
      by_cases e : k = i
      · subst e
        rw [upd_eq, w2_eq, e6]
      · rw [upd_ne e, w2_ni e]
        exact q3
    refine ⟨⟨_, _, _, _, _, _, _, q, c1, i1.eqK (fun k => w2_nj (by decide)) (fun k => w2_nj (by decide)) (fun k => w2_nj (by decide)), m1, hP⟩, rfl, ?_⟩
    rw [i32_eq, c1.gV i j]
    exact hmV
/-- a call read that is refused -/
theorem read_no (h : SM v x A T) (hi : i < 4) (hj : j < 16) (ha : ¬ acc v i j) : SM v (s_X6_read_ok x i j) A T ∧ (s_X6_read_ok x i j).FM 0 = nI 2 := by
  obtain ⟨R, K, S, V, W, O, H, q, hc, hI, hM, hP⟩ := h
  rw [acc_iff hc] at ha
  have hM0 : MR (x.setFM 0 (nI 0)) T R K S V W O H q := hM.fm0
  have hM2 : MR (s_X6_fail (x.setFM 0 (nI 0)) (nI 2)) T R K S V W O H q := hM
  have e9 : (x.setFM 0 (nI 0)).AM 9 i = -1 ↔ R i 0 = -1 := by rw [i32_eq, (hM0.1 i hi).2.2.2.2.2, tm1]
  have hw := (hI.2.2.2.1 i hi j hj).1
  have e5 : (x.setFM 0 (nI 0)).AM 5 (16 * i + j) < 0 ↔ W i j = -1 := by
    rw [i32_lt0, (hM0.2.2.1 i j hi hj).2.2]
    omega
  have e2 : (x.setFM 0 (nI 0)).AM 2 (16 * i + j) ≤ 0 ↔ S i j = 0 := by
    rw [i32_le0, (hM0.2.2.1 i j hi hj).1]
    have := sN0 hI hi j hj
    omega
  have key : s_X6_read_ok x i j = s_X6_fail (x.setFM 0 (nI 0)) (nI 2) := by
    unfold s_X6_read_ok
    dsimp only
    by_cases h1 : R i 0 = -1
    · rw [if_pos (e9.mpr h1)]
      by_cases h2 : W i j = -1
      · rw [if_pos (e5.mpr h2)]
        have h3 : ¬ (nI (r_X0_needsWayFor v i j) = 0 ∨ nI (r_X0_lacksVictimRoomFor v i (nat (v.x.AC i 3 0))) = 0) := fun e => ha ⟨h1, h2, e⟩
        have hs : S i j = 0 := Decidable.byContradiction fun e => h3 (Or.inl ((nw_iff hc hi).mpr (Or.inl e)))
        rw [if_pos (e2.mpr hs), if_pos ((cs_iff hc hI hM0 hi hj h1).mpr h3)]
      · rw [if_neg (fun e => h2 (e5.mp e))]
    · rw [if_neg (fun e => h1 (e9.mp e))]
  rw [key]
  exact ⟨⟨R, K, S, V, W, O, H, q, hc, hI, hM2, hP⟩, rfl⟩
/-- a call write that is allowed -/
theorem write_sim {w : Nat} (hT : T < 2 ^ 31 - 1) (h : SM v x A T) (hi : i < 4) (hj : j < 16) (hw : w ≤ 9999) (ha : acc v i j) : SM (s_X5_write v i j w) (s_X6_write_ok x i j (nI w)) A (T + 1) ∧ (s_X6_write_ok x i j (nI w)).FM 0 = nI 0 ∧ r_X6_write_ok x i j (nI w) = r_X5_write v i j w := by
  obtain ⟨R, K, S, V, W, O, H, q, hc, hI, hM, hP⟩ := h
  rw [acc_iff hc] at ha
  obtain ⟨h1, h2, h3⟩ := ha
  have hM0 : MR (x.setFM 0 (nI 0)) T R K S V W O H q := hM.fm0
  have e9 : (x.setFM 0 (nI 0)).AM 9 i = -1 := i32_eq.mpr (by rw [(hM0.1 i hi).2.2.2.2.2, h1, tm1])
  have e5 : (x.setFM 0 (nI 0)).AM 5 (16 * i + j) < 0 := i32_lt0.mpr (by rw [(hM0.2.2.1 i j hi hj).2.2, h2]; decide)
  have eS := (hM0.2.2.1 i j hi hj).1
  have e2 : (x.setFM 0 (nI 0)).AM 2 (16 * i + j) = nI 3 ↔ S i j = 3 := by rw [i32_eq, eS, t3]
  have e2c : v.x.AC i 0 j = nI 3 ↔ S i j = 3 := by rw [i32_eq, hc.gS, t3]
  have hw0 : ¬ nI w < 0 := nI_pos (by omega)
  have hw1 : nI w ≤ nI 9999 := nI_le hw (by omega)
  have hwt : (nI w).toInt = (w : Int) := nI_toInt (by omega)
  unfold s_X6_write_ok r_X6_write_ok s_X5_write r_X5_write
  dsimp only
  rw [if_neg hw0, if_pos hw1, if_pos e9, if_pos e5, if_neg hw0, if_pos hw1, if_pos e9, if_pos e5]
  by_cases hs : S i j = 3
  · rw [if_pos (e2.mpr hs), if_pos (e2.mpr hs), if_pos (e2c.mpr hs), if_pos (e2c.mpr hs)]
    have hs0 : S i j ≠ 0 := by omega
    have hl := use_len hI hi hj h1 hs0
    have e6 : x.AM 6 i = v.x.FC i 12 := i32_eq.mpr (by rw [(hM.1 i hi).2.2.1, hc.gK i 12 (by decide)])
    have c1 := (hc.sFC (i := i) (m := 12) (w := v.x.FC i 12 + nI 1) (by decide)).store (s := nI 3) (a := nI w) hi hj hl
    have eS3 : w2 S i j (nI 3).toInt = S := by
      funext k n
      unfold w2
      split
      · rename_i e
        rw [e.1, e.2, t3, hs]
      · rfl
    rw [eS3] at c1
    have i1 := T_use (v := (nI w).toInt) hi hj hI h1 hs0 (by omega)
    have m1 : MR (s_X6_use ((x.setFM 0 (nI 0)).setAM 6 (upd ((x.setFM 0 (nI 0)).AM 6) i ((x.setFM 0 (nI 0)).AM 6 i + nI 1))) i j) (T + 1) R (w2 K i 12 (v.x.FC i 12 + nI 1).toInt) S V W (va_up O i (fl (O i) j ++ [j])) H q := by
      refine MR.use ?_ hj hT
      obtain ⟨g1, g2, g3, g4, g5, g6, g7, g8⟩ := hM0
      refine ⟨fun k hk => ?_, g2, g3, g4, g5, g6, g7, g8⟩
      obtain ⟨q1, q2, q3, q4, q5, q6⟩ := g1 k hk
      have n9 : w2 K i 12 (v.x.FC i 12 + nI 1).toInt k 9 = K k 9 := w2_nj (by decide)
      have n10 : w2 K i 12 (v.x.FC i 12 + nI 1).toInt k 10 = K k 10 := w2_nj (by decide)
      have n11 : w2 K i 12 (v.x.FC i 12 + nI 1).toInt k 11 = K k 11 := w2_nj (by decide)
      have n13 : w2 K i 12 (v.x.FC i 12 + nI 1).toInt k 13 = K k 13 := w2_nj (by decide)
      rw [n9, n10, n11, n13]
      refine ⟨q1, q2, ?_, q4, q5, q6⟩
      show (upd (x.AM 6) i (x.AM 6 i + nI 1) k).toInt = _
      by_cases e : k = i
      · subst e
        rw [upd_eq, w2_eq, e6]
      · rw [upd_ne e, w2_ni e]
        exact q3
    exact ⟨⟨_, _, _, _, _, _, _, q, c1, i1.eqK (fun k => w2_nj (by decide)) (fun k => w2_nj (by decide)) (fun k => w2_nj (by decide)), m1.val hj, hP⟩, rfl, rfl⟩
  · rw [if_neg (fun e => hs (e2.mp e)), if_neg (fun e => hs (e2.mp e)), if_neg (fun e => hs (e2c.mp e)), if_neg (fun e => hs (e2c.mp e))]
    have hcs : ¬ nI (r_X6_canStart (x.setFM 0 (nI 0)) i j) = 0 := fun e => (cs_iff hc hI hM0 hi hj h1).mp e h3
    rw [if_neg hcs, if_neg hcs]
    exact ⟨(start_sim (w := nI 1) (tw := nI w) (a := nI w) hc hI hM0 hP hi hj h1 h2 (Or.inr ⟨rfl, rfl, by omega⟩) h3).mono (Nat.le_succ _), start_FM0, rfl⟩
/-- a call write that is refused -/
theorem write_no {w : Nat} (h : SM v x A T) (hi : i < 4) (hj : j < 16) (hw : w ≤ 9999) (ha : ¬ acc v i j) : SM v (s_X6_write_ok x i j (nI w)) A T ∧ (s_X6_write_ok x i j (nI w)).FM 0 = nI 3 := by
  obtain ⟨R, K, S, V, W, O, H, q, hc, hI, hM, hP⟩ := h
  rw [acc_iff hc] at ha
  have hM0 : MR (x.setFM 0 (nI 0)) T R K S V W O H q := hM.fm0
  have hM2 : MR (s_X6_failed (x.setFM 0 (nI 0)) (nI 3)) T R K S V W O H q := hM
  have e9 : (x.setFM 0 (nI 0)).AM 9 i = -1 ↔ R i 0 = -1 := by rw [i32_eq, (hM0.1 i hi).2.2.2.2.2, tm1]
  have hww := (hI.2.2.2.1 i hi j hj).1
  have e5 : (x.setFM 0 (nI 0)).AM 5 (16 * i + j) < 0 ↔ W i j = -1 := by
    rw [i32_lt0, (hM0.2.2.1 i j hi hj).2.2]
    omega
  have e2 : (x.setFM 0 (nI 0)).AM 2 (16 * i + j) = nI 3 ↔ S i j = 3 := by rw [i32_eq, (hM0.2.2.1 i j hi hj).1, t3]
  have hw0 : ¬ nI w < 0 := nI_pos (by omega)
  have hw1 : nI w ≤ nI 9999 := nI_le hw (by omega)
  have key : s_X6_write_ok x i j (nI w) = s_X6_failed (x.setFM 0 (nI 0)) (nI 3) := by
    unfold s_X6_write_ok
    dsimp only
    rw [if_neg hw0, if_pos hw1]
    by_cases h1 : R i 0 = -1
    · rw [if_pos (e9.mpr h1)]
      by_cases h2 : W i j = -1
      · rw [if_pos (e5.mpr h2)]
        have h3 : ¬ (nI (r_X0_needsWayFor v i j) = 0 ∨ nI (r_X0_lacksVictimRoomFor v i (nat (v.x.AC i 3 0))) = 0) := fun e => ha ⟨h1, h2, e⟩
        have hs : ¬ S i j = 3 := fun e => h3 (Or.inl ((nw_iff hc hi).mpr (Or.inl (by omega))))
        rw [if_neg (fun e => hs (e2.mp e)), if_pos ((cs_iff hc hI hM0 hi hj h1).mpr h3)]
      · rw [if_neg (fun e => h2 (e5.mp e))]
    · rw [if_neg (fun e => h1 (e9.mp e))]
  rw [key]
  exact ⟨⟨R, K, S, V, W, O, H, q, hc, hI, hM2, hP⟩, rfl⟩
/-- a call write with a wrong value -/
theorem write_bv {a : Int32} (h : SM v x A T) (hb : a < 0 ∨ nI 9999 < a) : SM v (s_X6_write_ok x i j a) A T ∧ (s_X6_write_ok x i j a).FM 0 = nI 2 := by
  obtain ⟨R, K, S, V, W, O, H, q, hc, hI, hM, hP⟩ := h
  have hM2 : MR (s_X6_failed (x.setFM 0 (nI 0)) (nI 2)) T R K S V W O H q := hM
  have key : s_X6_write_ok x i j a = s_X6_failed (x.setFM 0 (nI 0)) (nI 2) := by
    unfold s_X6_write_ok
    dsimp only
    by_cases h0 : a < 0
    · rw [if_pos h0]
    · rw [if_neg h0, if_neg (fun e => by
        have h1 := hb.resolve_left h0
        rw [Int32.lt_iff_toInt_lt] at h1
        rw [Int32.le_iff_toInt_le] at e
        omega)]
  rw [key]
  exact ⟨⟨R, K, S, V, W, O, H, q, hc, hI, hM2, hP⟩, rfl⟩
/-- a call evict that is allowed -/
theorem evict_sim (h : SM v x A T) (hi : i < 4) (hj : j < 16) (h0 : ¬ nI (r_X0_holds v i j) = 0) (h1 : ¬ v.x.FR i 0 = nI j) (h2 : nI (r_X0_lacksVictimRoomFor v i j) = 0) : SM (s_X5_evict v i j) (s_X6_evict_ok x i j) A T ∧ (s_X6_evict_ok x i j).FM 0 = nI 0 ∧ r_X6_evict_ok x i j = r_X5_evict v i j := by
  obtain ⟨R, K, S, V, W, O, H, q, hc, hI, hM, hP⟩ := h
  have hM0 : MR (x.setFM 0 (nI 0)) T R K S V W O H q := hM.fm0
  rw [holds_iff hc] at h0
  rw [i32_eq, hc.gR, tj hj] at h1
  rw [lk_iff hc] at h2
  have eS := (hM0.2.2.1 i j hi hj).1
  have e2 : ¬ (x.setFM 0 (nI 0)).AM 2 (16 * i + j) = 0 := fun e => h0 (by rw [← eS, e]; rfl)
  have e9 : ¬ (x.setFM 0 (nI 0)).AM 9 i = nI j := fun e => h1 (by rw [← (hM0.1 i hi).2.2.2.2.2, e, tj hj])
  have er : ¬ nI (r_X6_canRemove (x.setFM 0 (nI 0)) i j) = 0 := fun e => (rm_iff hI hM0 hi hj).mp e h2
  unfold s_X6_evict_ok r_X6_evict_ok s_X5_evict r_X5_evict
  dsimp only
  rw [if_neg e2, if_neg e9, if_neg er, if_neg e2, if_neg e9, if_neg er]
  obtain ⟨K', S', V', W', q', c1, c2, c3, c4, -, -⟩ := out_sim hc hI hM0 hP hi hj h0 h1 h2
  exact ⟨⟨R, K', S', V', W', _, H, q', c1, c2, c3, c4⟩, remove_FM0, i32_eq.mpr (by rw [eS, hc.gS])⟩
/-- a call evict that is refused -/
theorem evict_t (h : SM v x A T) (hi : i < 4) (hj : j < 16) (h0 : nI (r_X0_holds v i j) = 0) : SM v (s_X6_evict_ok x i j) A T ∧ (s_X6_evict_ok x i j).FM 0 = nI 2 := by
  obtain ⟨R, K, S, V, W, O, H, q, hc, hI, hM, hP⟩ := h
  have hM2 : MR (s_X6_fail (x.setFM 0 (nI 0)) (nI 2)) T R K S V W O H q := hM
  rw [holds_iff hc] at h0
  have key : s_X6_evict_ok x i j = s_X6_fail (x.setFM 0 (nI 0)) (nI 2) := by
    unfold s_X6_evict_ok
    dsimp only
    rw [if_pos (i32_eq.mpr (by rw [show (x.setFM 0 (nI 0)).AM = x.AM from rfl, (hM.2.2.1 i j hi hj).1, h0]; rfl))]
  rw [key]
  exact ⟨⟨R, K, S, V, W, O, H, q, hc, hI, hM2, hP⟩, rfl⟩
theorem evict_s (h : SM v x A T) (hi : i < 4) (hj : j < 16) (h0 : ¬ nI (r_X0_holds v i j) = 0) (h1 : ¬ (¬ v.x.FR i 0 = nI j ∧ nI (r_X0_lacksVictimRoomFor v i j) = 0)) : SM v (s_X6_evict_ok x i j) A T ∧ (s_X6_evict_ok x i j).FM 0 = nI 3 := by
  obtain ⟨R, K, S, V, W, O, H, q, hc, hI, hM, hP⟩ := h
  have hM0 : MR (x.setFM 0 (nI 0)) T R K S V W O H q := hM.fm0
  have hM2 : MR (s_X6_fail (x.setFM 0 (nI 0)) (nI 3)) T R K S V W O H q := hM
  rw [holds_iff hc] at h0
  rw [i32_eq, hc.gR, tj hj, lk_iff hc] at h1
  have eS := (hM0.2.2.1 i j hi hj).1
  have e2 : ¬ (x.setFM 0 (nI 0)).AM 2 (16 * i + j) = 0 := fun e => h0 (by rw [← eS, e]; rfl)
  have e9 : (x.setFM 0 (nI 0)).AM 9 i = nI j ↔ R i 0 = (j : Int) := by rw [i32_eq, (hM0.1 i hi).2.2.2.2.2, tj hj]
  have key : s_X6_evict_ok x i j = s_X6_fail (x.setFM 0 (nI 0)) (nI 3) := by
    unfold s_X6_evict_ok
    dsimp only
    rw [if_neg e2]
    by_cases h2 : R i 0 = (j : Int)
    · rw [if_pos (e9.mpr h2)]
    · rw [if_neg (fun e => h2 (e9.mp e)), if_pos ((rm_iff hI hM0 hi hj).mpr (fun e => h1 ⟨h2, e⟩))]
  rw [key]
  exact ⟨⟨R, K, S, V, W, O, H, q, hc, hI, hM2, hP⟩, rfl⟩
end CALLS
