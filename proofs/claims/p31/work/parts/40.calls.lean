/-! ===== the calls of the caches ===== -/
/-- the view holds, with the latest values N -/
def SV (v : Vw) (A : St) (N : Nat → Int) : Prop := ∃ R K S V W O H q, CE v A R K S V W O H q ∧ InvC R K S V W O H (allq q) ∧ InvV N R S V W H (allq q) ∧ PLQ q
/-- the requests are as before (what the law keeps of them) -/
def rqE (v v' : Vw) : Prop := ∀ k n, n < 3 → cR v' k n = cR v k n
/-- a request of cache i for line j is new -/
def rqO (v v' : Vw) (i j : Nat) (w a : Int) : Prop := (∀ k n, n < 3 → k ≠ i → cR v' k n = cR v k n) ∧ cR v' i 0 = (j : Int) ∧ cR v' i 1 = w ∧ cR v' i 2 = a
/-- a cache may read or write a line -/
def acc (v : Vw) (i j : Nat) : Prop := v.x.FR i 0 = -1 ∧ v.x.AC i 2 j = -1 ∧ (nI (r_X0_needsWayFor v i j) = 0 ∨ nI (r_X0_lacksVictimRoomFor v i (nat (v.x.AC i 3 0))) = 0)
section CALLS
variable {v : Vw} {A : St} {R K S V W : Nat → Nat → Int} {O : Nat → List Nat} {H : Nat → Nat → Int} {N : Nat → Int} {q : Nat → List M7} {i j c d : Nat} {m : M7}
theorem b01 {p : Prop} [Decidable p] : nI (if p then 0 else 1) = 0 ↔ p := by
  by_cases h : p
  · rw [if_pos h]
    exact ⟨fun _ => h, fun _ => rfl⟩
  · rw [if_neg h]
    exact ⟨fun e => absurd e (by decide), fun e => (h e).elim⟩
theorem holds_iff (hc : CE v A R K S V W O H q) : nI (r_X0_holds v i j) = 0 ↔ S i j = 0 := by
  unfold r_X0_holds
  rw [b01, i32_eq, hc.gS]
  rfl
theorem nw_iff (hc : CE v A R K S V W O H q) (hi : i < 4) : nI (r_X0_needsWayFor v i j) = 0 ↔ (S i j ≠ 0 ∨ ((O i).length : Int) < K i 9) := by
  unfold r_X0_needsWayFor
  have e := holds_iff (i := i) (j := j) hc
  obtain ⟨g1, g2, -⟩ := hc.gO hi
  by_cases h : S i j = 0
  · rw [if_pos (e.mpr h), b01, Int32.lt_iff_toInt_lt, g1, nI_toInt (by omega), hc.gK i 9 (by decide)]
    exact ⟨fun q => Or.inr q, fun q => q.resolve_left (fun z => z h)⟩
  · rw [if_neg (fun q => h (e.mp q))]
    exact ⟨fun _ => Or.inl h, fun _ => rfl⟩
theorem lk_iff (hc : CE v A R K S V W O H q) : nI (r_X0_lacksVictimRoomFor v i j) = 0 ↔ (S i j = 1 ∨ K i 8 < K i 10) := by
  unfold r_X0_lacksVictimRoomFor
  by_cases h : S i j = 1
  · rw [if_pos (i32_eq.mpr (by rw [hc.gS, h, t1]))]
    exact ⟨fun _ => Or.inl h, fun _ => rfl⟩
  · rw [if_neg (fun q => h (by rw [← hc.gS, q, t1])), b01, Int32.lt_iff_toInt_lt, hc.gK i 8 (by decide), hc.gK i 10 (by decide)]
    exact ⟨fun q => Or.inr q, fun q => q.resolve_left h⟩
theorem sN0 (hI : InvC R K S V W O H (allq q)) (hi : i < 4) : ∀ j : Nat, j < 16 → 0 ≤ S i j := fun j hj => (hI.2.2.2.2.2.2.1 i hi j hj).1
theorem nn16 {w : Int32} {i : Nat} (hi : i < 16) (h : w = nI i) : ¬ w = -1 := fun e => by
  have := i32_eq.mp (h.symm.trans e)
  rw [nI_toInt (by omega), tm1] at this
  omega
theorem cstart_eq {w tw : Int32} : s_X0_startRequest v i j w tw = if (nI (r_X0_needsWayFor v i j)) = 0 then (if w = 0 then vsend (cOpn v i j w tw) (mkM (nI 1) (nI j) (nI i) (-1)) else vsend (cOpn v i j w tw) (mkM (nI 2) (nI j) (nI i) (-1))) else (if w = 0 then vsend (cOpn (s_X0_moveOut v i (nat (v.x.AC i 3 0))) i j w tw) (mkM (nI 1) (nI j) (nI i) (-1)) else vsend (cOpn (s_X0_moveOut v i (nat (v.x.AC i 3 0))) i j w tw) (mkM (nI 2) (nI j) (nI i) (-1))) := by
  unfold s_X0_startRequest cOpn
  rfl
theorem acc_iff (hc : CE v A R K S V W O H q) : acc v i j ↔ R i 0 = -1 ∧ W i j = -1 ∧ (nI (r_X0_needsWayFor v i j) = 0 ∨ nI (r_X0_lacksVictimRoomFor v i (nat (v.x.AC i 3 0))) = 0) := by
  unfold acc
  rw [i32_eq, hc.gR, i32_eq, hc.gW, tm1]
theorem use_len (hI : InvC R K S V W O H (allq q)) (hi : i < 4) (hj : j < 16) (hr0 : R i 0 = -1) (hs : S i j ≠ 0) : (fl (O i) j).length ≤ 3 := by
  obtain ⟨o1, o2, o3, o4, o5⟩ := hI.2.2.2.2.2.1 i hi
  rw [flt_m hr0, if_pos hr0] at o3
  have := fl_len o1 ((o2 j).mpr ⟨hj, hs⟩)
  omega
theorem lv_v (hc : CE v A R K S V W O H q) (hI : InvC R K S V W O H (allq q)) (hi : i < 4) (hr0 : R i 0 = -1) (hn : ¬ (S i j ≠ 0 ∨ ((O i).length : Int) < K i 9)) : ∃ a, (O i)[0]? = some a ∧ nat (v.x.AC i 3 0) = a ∧ a < 16 ∧ S i a ≠ 0 ∧ ((O i).length : Int) = K i 9 := by
  have h5 := hI.2.2.2.2.2.1 i hi
  obtain ⟨g1, g2, g3⟩ := hc.gO hi
  obtain ⟨o1, o2, o3, o4, o5⟩ := h5
  rw [flt_m hr0, if_pos hr0] at o3
  have hk : ((O i).length : Int) = K i 9 := by
    have : ¬ ((O i).length : Int) < K i 9 := fun q => hn (Or.inr q)
    omega
  have h0 : 0 < (O i).length := by omega
  have e0 : (O i)[0]? = some (O i)[0] := List.getElem?_eq_getElem h0
  refine ⟨(O i)[0], e0, ?_, (g3 0 _ e0).2, ?_, hk⟩
  · rw [(g3 0 _ e0).1, nat_nI (by have := (g3 0 _ e0).2; omega)]
  · exact ((o2 _).mp (List.mem_of_getElem? e0)).2
/-- a request is started -/
theorem start_v {w tw : Int32} (hc : CE v A R K S V W O H q) (hI : InvC R K S V W O H (allq q)) (hV : InvV N R S V W H (allq q)) (hP : PLQ q) (hi : i < 4) (hj : j < 16) (hr0 : R i 0 = -1) (hW : W i j = -1) (hw : (w = 0 ∧ S i j = 0) ∨ (w = 1 ∧ 0 ≤ tw.toInt)) (hroom : nI (r_X0_needsWayFor v i j) = 0 ∨ nI (r_X0_lacksVictimRoomFor v i (nat (v.x.AC i 3 0))) = 0) :
    SV (s_X0_startRequest v i j w tw) A N ∧ rqO v (s_X0_startRequest v i j w tw) i j w.toInt tw.toInt := by
  rw [cstart_eq]
  by_cases h : S i j ≠ 0 ∨ ((O i).length : Int) < K i 9
  · rw [if_pos ((nw_iff hc hi).mpr h)]
    obtain ⟨R', K', q', c1, c2, c3, c4, r1, r2, r3, r4⟩ := open_v hc hI hV hP hi hj hr0 hW hw h
    refine ⟨⟨R', K', S, V, W, O, H, q', c1, c2, c3, c4⟩, ?_⟩
    unfold rqO
    rw [c1.2.1, hc.2.1]
    exact ⟨fun k n _ e => r1 k n e, r2, r3, r4⟩
  · obtain ⟨b, a1, a3, a4, a5, a6⟩ := lv_v hc hI hi hr0 h
    rw [if_neg (fun e => h ((nw_iff hc hi).mp e)), a3]
    have hv : S i b = 1 ∨ K i 8 < K i 10 := by
      rcases hroom with e | e
      · exact (h ((nw_iff hc hi).mp e)).elim
      · rw [a3] at e
        exact (lk_iff hc).mp e
    have hs : S i j = 0 := Decidable.byContradiction fun z => h (Or.inl z)
    have hjb : j ≠ b := fun e => a5 (e ▸ hs)
    obtain ⟨K', S', V', W', q', c1, c2, c3, c4, c5, c6⟩ := out_v hc hI hV hP hi a4 a5 (by omega) hv
    have e6 := c6 i j (fun e => hjb e.2)
    have hlen := fl_len (hI.2.2.2.2.2.1 i hi).1 (List.mem_of_getElem? a1)
    obtain ⟨R'', K'', q'', d1, d2, d3, d4, r1, r2, r3, r4⟩ := open_v (w := w) (tw := tw) c1 c2 c3 c4 hi hj hr0 (by rw [e6.2]; exact hW) (by rw [e6.1]; exact hw) (Or.inr (by rw [va_up_self, c5 i 9 (by decide)]; omega))
    refine ⟨⟨R'', K'', S', V', W', _, H, q'', d1, d2, d3, d4⟩, ?_⟩
    unfold rqO
    rw [d1.2.1, hc.2.1]
    exact ⟨fun k n _ e => r1 k n e, r2, r3, r4⟩
/-- a call read that is allowed -/
theorem read_v (h : SV v A N) (hi : i < 4) (hj : j < 16) (ha : acc v i j) : SV (s_X5_read v i j) A N ∧ (((r_X5_read v i j).toInt = N j ∧ 0 ≤ N j ∧ rqE v (s_X5_read v i j)) ∨ (r_X5_read v i j = -1 ∧ rqO v (s_X5_read v i j) i j 0 (-1))) := by
  obtain ⟨R, K, S, V, W, O, H, q, hc, hI, hV, hP⟩ := h
  have ha1 := ha
  rw [acc_iff hc] at ha
  obtain ⟨h1, h2, h3⟩ := ha
  unfold s_X5_read r_X5_read
  dsimp only
  by_cases hs : S i j = 0
  · rw [if_pos ((holds_iff hc).mpr hs), if_pos ((holds_iff hc).mpr hs)]
    obtain ⟨s1, s2⟩ := start_v (w := nI 0) (tw := -1) hc hI hV hP hi hj h1 h2 (Or.inl ⟨rfl, hs⟩) h3
    exact ⟨s1, Or.inr ⟨rfl, s2⟩⟩
  · have hh := fun e => hs ((holds_iff (i := i) (j := j) hc).mp e)
    rw [if_neg hh, if_neg hh]
    have hl := use_len hI hi hj h1 hs
    have c1 := (hc.sFC (i := i) (m := 12) (w := v.x.FC i 12 + nI 1) (by decide)).mark hi hj hl
    have hv := hI.2.2.2.2.2.2.1 i hi j hj
    have i1 := T_use (v := V i j) hi hj hI h1 hs (hv.2.2.2.1 hs)
    have eV : w2 V i j (V i j) = V := by
      funext k n
      unfold w2
      split
      · rename_i e
        rw [e.1, e.2]
      · rfl
    rw [eV] at i1
    have nv := hV.1 i hi j hj hs
    refine ⟨⟨_, _, _, _, _, _, _, q, c1, i1.eqK (fun k => w2_nj (by decide)) (fun k => w2_nj (by decide)) (fun k => w2_nj (by decide)), hV, hP⟩, Or.inl ⟨?_, ?_, ?_⟩⟩
    · rw [c1.gV i j]
      exact nv
    · rw [← nv]
      exact hv.2.2.2.1 hs
    · intro k n _
      rw [c1.2.1, hc.2.1]
/-- a call write that is allowed -/
theorem write_v {w : Nat} (h : SV v A N) (hi : i < 4) (hj : j < 16) (hw : w ≤ 9999) (ha : acc v i j) : (r_X5_write v i j w = 1 ∧ SV (s_X5_write v i j w) A (vN N j (w : Int)) ∧ rqE v (s_X5_write v i j w)) ∨ (r_X5_write v i j w = 0 ∧ SV (s_X5_write v i j w) A N ∧ rqO v (s_X5_write v i j w) i j 1 (w : Int)) := by
  obtain ⟨R, K, S, V, W, O, H, q, hc, hI, hV, hP⟩ := h
  rw [acc_iff hc] at ha
  obtain ⟨h1, h2, h3⟩ := ha
  have e2c : v.x.AC i 0 j = nI 3 ↔ S i j = 3 := by rw [i32_eq, hc.gS, t3]
  have hwt : (nI w).toInt = (w : Int) := nI_toInt (by omega)
  unfold s_X5_write r_X5_write
  dsimp only
  by_cases hs : S i j = 3
  · rw [if_pos (e2c.mpr hs), if_pos (e2c.mpr hs)]
    have hs0 : S i j ≠ 0 := by omega
    have hl := use_len hI hi hj h1 hs0
    have c1 := (hc.sFC (i := i) (m := 12) (w := v.x.FC i 12 + nI 1) (by decide)).store (s := nI 3) (a := nI w) hi hj hl
    have eS3 : w2 S i j (nI 3).toInt = S := by
      funext k n
      unfold w2
      split
      · rename_i e
        rw [e.1, e.2, t3, hs]
      · rfl
    rw [eS3] at c1
    have i1 := T_use (v := (nI w).toInt) hi hj hI h1 hs0 (by omega)
    have j1 := V_hit (a := (nI w).toInt) hi hj hI hV hs
    rw [hwt] at c1 i1 j1
    refine Or.inl ⟨rfl, ⟨_, _, _, _, _, _, _, q, c1, i1.eqK (fun k => w2_nj (by decide)) (fun k => w2_nj (by decide)) (fun k => w2_nj (by decide)), j1, hP⟩, ?_⟩
    intro k n _
    rw [c1.2.1, hc.2.1]
  · rw [if_neg (fun e => hs (e2c.mp e)), if_neg (fun e => hs (e2c.mp e))]
    obtain ⟨s1, s2⟩ := start_v (w := nI 1) (tw := nI w) hc hI hV hP hi hj h1 h2 (Or.inr ⟨rfl, by omega⟩) h3
    rw [hwt, t1] at s2
    exact Or.inr ⟨rfl, s1, s2⟩
/-- a call evict that is allowed -/
theorem evict_v (h : SV v A N) (hi : i < 4) (hj : j < 16) (h0 : ¬ nI (r_X0_holds v i j) = 0) (h1 : ¬ v.x.FR i 0 = nI j) (h2 : nI (r_X0_lacksVictimRoomFor v i j) = 0) : SV (s_X5_evict v i j) A N ∧ r_X5_evict v i j ≤ 3 ∧ rqE v (s_X5_evict v i j) := by
  obtain ⟨R, K, S, V, W, O, H, q, hc, hI, hV, hP⟩ := h
  rw [holds_iff hc] at h0
  rw [i32_eq, hc.gR, tj hj] at h1
  rw [lk_iff hc] at h2
  unfold s_X5_evict r_X5_evict
  dsimp only
  obtain ⟨K', S', V', W', q', c1, c2, c3, c4, -, -⟩ := out_v hc hI hV hP hi hj h0 h1 h2
  have hv := hI.2.2.2.2.2.2.1 i hi j hj
  refine ⟨⟨R, K', S', V', W', _, H, q', c1, c2, c3, c4⟩, ?_, ?_⟩
  · rw [Int32.le_iff_toInt_le, hc.gS]
    exact hv.2.1
  · intro k n _
    rw [c1.2.1, hc.2.1]
end CALLS
