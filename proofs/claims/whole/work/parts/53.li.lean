/-! ===== the law's invariant, and what one call of the law must show ===== -/
section LI
variable {v u : Vw} {x y y1 y2 A B : St} {T t cs sl : Nat} {R K S V W : Nat → Nat → Int} {O : Nat → List Nat} {H : Nat → Nat → Int} {q : Nat → List M7}
theorem CE.cg (h : CE u A R K S V W O H q) (eC : v.x.FC = u.x.FC) (eR : v.x.FR = u.x.FR) (eA : v.x.AC = u.x.AC) (eH : v.x.FH = u.x.FH) (eq : v.q = u.q) (eB : v.x.FM = B.FM ∧ v.x.AM = B.AM) : CE v B R K S V W O H q := by
  obtain ⟨_, a1, a2, a3, a4, a5, a6, a7, a8, a9⟩ := h
  refine ⟨eB, ?_, ?_, ?_, ?_, ?_, ?_, ?_, eq.trans a8, ?_⟩
  · rw [← a1]; unfold cR; rw [eR]
  · rw [← a2]; unfold cK; rw [eC]
  · rw [← a3]; unfold cS; rw [eA]
  · rw [← a4]; unfold cV; rw [eA]
  · rw [← a5]; unfold cW; rw [eA]
  · rw [← a6]; unfold cO uO; rw [eA, eC]
  · rw [← a7]; unfold cH; rw [eH]
  · intro i hi
    have := a9 i hi
    unfold WO at this ⊢
    rw [eC, eA]
    exact this
theorem MR.cg (h : MR x T R K S V W O H q) (h1 : y.FM = x.FM) (h2 : y.AM = x.AM) : MR y T R K S V W O H q := by
  unfold MR at h ⊢
  rw [h1, h2]
  exact h
theorem SM.cg (h : SM v x A T) (h1 : y.FM = x.FM) (h2 : y.AM = x.AM) : SM v y A T := by
  obtain ⟨R, K, S, V, W, O, H, q, a, b, c, d⟩ := h
  exact ⟨R, K, S, V, W, O, H, q, a, b, c.cg h1 h2, d⟩
theorem SM.cv (h : SM u x A T) (eC : v.x.FC = u.x.FC) (eR : v.x.FR = u.x.FR) (eA : v.x.AC = u.x.AC) (eH : v.x.FH = u.x.FH) (eq : v.q = u.q) (eB : v.x.FM = B.FM ∧ v.x.AM = B.AM) : SM v x B T := by
  obtain ⟨R, K, S, V, W, O, H, q, a, b, c, d⟩ := h
  exact ⟨R, K, S, V, W, O, H, q, a.cg eC eR eA eH eq eB, b, c, d⟩
theorem SM.am (h : SM v x A T) : v.x.FM = A.FM ∧ v.x.AM = A.AM := by
  obtain ⟨R, K, S, V, W, O, H, q, a, b⟩ := h
  exact a.1
theorem SM.ou {w : Int64} (h : SM v x A T) : SM (vOU v w) x A T := h.cv rfl rfl rfl rfl rfl h.am
theorem co_p (h : co x = co y) : x.FC = y.FC ∧ x.FR = y.FR ∧ x.AC = y.AC ∧ x.FH = y.FH ∧ x.OU = y.OU :=
  ⟨(congrArg St.FC h : (co x).FC = (co y).FC), (congrArg St.FR h : (co x).FR = (co y).FR), (congrArg St.AC h : (co x).AC = (co y).AC), (congrArg St.FH h : (co x).FH = (co y).FH), (congrArg St.OU h : (co x).OU = (co y).OU)⟩
/-- one call after another: t calls are done, U units of room are spent -/
def LI (y : St) (t cs sl : Nat) : Prop := ∃ (v : Vw) (T U : Nat), VW y v [] [] ∧ SM v y v.x T ∧ U + PH v.q + T ≤ 40 * t ∧ cs ≤ 1000 + 2 * U + t ∧ sl ≤ 100000 + 103 * U + 6 * t
theorem LI.le (h : LI y t cs sl) : cs ≤ 1000 + 81 * t ∧ sl ≤ 100000 + 4126 * t := by
  obtain ⟨v, T, U, -, -, h1, h2, h3⟩ := h
  exact ⟨by omega, by omega⟩
theorem VW.er' {p hs : List (Nat × M7)} (h : VW y u p hs) : er y = u.x := h.1
theorem LI.next {U : Nat} (hV : VW y1 u [] []) (h1 : co y2 = co y1) (h : SM u y2 A T) (hb : U + PH u.q + T ≤ 40 * t) (hc : cs ≤ 1000 + 2 * U + t) (hs : sl ≤ 100000 + 103 * U + 6 * t) : LI y2 t cs sl ∧ y2.OU = u.x.OU := by
  obtain ⟨c1, c2, c3, c4, c5⟩ := co_p h1
  have e := hV.er'
  have e1 : y1.FC = u.x.FC := (congrArg St.FC e : (er y1).FC = u.x.FC)
  have e2 : y1.FR = u.x.FR := (congrArg St.FR e : (er y1).FR = u.x.FR)
  have e3 : y1.AC = u.x.AC := (congrArg St.AC e : (er y1).AC = u.x.AC)
  have e4 : y1.FH = u.x.FH := (congrArg St.FH e : (er y1).FH = u.x.FH)
  have e5 : y1.OU = u.x.OU := (congrArg St.OU e : (er y1).OU = u.x.OU)
  refine ⟨⟨Vw.mk (er y2) u.q, T, U, hV.model h1, ?_, hb, hc, hs⟩, c5.trans e5⟩
  exact h.cv (c1.trans e1) (c2.trans e2) (c3.trans e3) (c4.trans e4) rfl ⟨rfl, rfl⟩
theorem VW.fm {p hs : List (Nat × M7)} (h : VW y u p hs) : y.FM = u.x.FM ∧ y.AM = u.x.AM := ⟨(congrArg St.FM h.er' : (er y).FM = u.x.FM), (congrArg St.AM h.er' : (er y).AM = u.x.AM)⟩
theorem fmz {w : Int32} : (x.setFM 0 w).FM 0 = w := by
  rw [St.FM_setFM]
  exact upd_eq
/-- a call of the class in the law, and the same call of the model -/
def OpE (l : Launch) (E : gE) (yL : MethodName) (wsL : List Cond) (yM : MethodName) (wsM : List Cond) (g : Int32 → Int64) (as : List Value) (y : St) (t cs sl : Nat) : Prop :=
  ∃ (k r : Int32) (mc ms : Nat) (rm : Room) (P1 P2 : St → Prop), (rm.cells = 0 ∧ rm.slots = 0 ∧ rm.frames ≤ 6 ∧ rm.locals ≤ 200) ∧ (cs + mc ≤ 1000 + 81 * (t + 1) ∧ sl + ms ≤ 100000 + 4126 * (t + 1)) ∧ Ct l yL wsL { frames := 15, cells := mc, slots := ms, locals := 600 } E (.ref (aD E) :: (as ++ [.ref (aO E)])) y (fun o z => o = some (.int k) ∧ P1 z) mc ms ∧
    (∀ y1, P1 y1 → Ct l yM wsM rm E (.ref (aM E) :: as) y1 (fun o z => o = some (.int r) ∧ P2 z) 0 0) ∧
    ∀ y2, P2 y2 → y2.FM 0 = k ∧ (k = 0 → y2.OU = g r) ∧ LI y2 (t + 1) (cs + mc) (sl + ms)
def OpS (l : Launch) (E : gE) (yL : MethodName) (wsL : List Cond) (yM : MethodName) (wsM : List Cond) (g : Int32 → Int64) (as : List Value) : Prop := ∀ (y : St) (t cs sl : Nat), LI y t cs sl → t < 512 → OpE l E yL wsL yM wsM g as y t cs sl
variable {l : Launch} {E : gE} {yL yM : MethodName} {wsL wsM : List Cond} {rm : Room} {g : Int32 → Int64} {as : List Value}
theorem OpE.bad {k r : Int32} {z : St} {U : Nat} (hk : ¬ k = 0) (hr : rm.cells = 0 ∧ rm.slots = 0 ∧ rm.frames ≤ 6 ∧ rm.locals ≤ 200) (hL : Ct l yL wsL { frames := 15, cells := 1, slots := 6, locals := 600 } E (.ref (aD E) :: (as ++ [.ref (aO E)])) y (fun o z => o = some (.int k) ∧ z = y) 1 6)
    (hM : Ct l yM wsM rm E (.ref (aM E) :: as) y (fun o y2 => o = some (.int r) ∧ y2 = z) 0 0) (hz : z.FM 0 = k) (h1 : co z = co y) (hV : VW y v [] []) (h : SM v z A T)
    (hb : U + PH v.q + T ≤ 40 * t) (hc : cs ≤ 1000 + 2 * U + t) (hs : sl ≤ 100000 + 103 * U + 6 * t) : OpE l E yL wsL yM wsM g as y t cs sl := by
  refine ⟨k, r, 1, 6, rm, fun w => w = y, fun w => w = z, hr, ⟨by omega, by omega⟩, hL, ?_, ?_⟩
  · intro y1 e
    rw [e]
    exact hM
  · intro y2 e
    rw [e]
    exact ⟨hz, fun e0 => absurd e0 hk, (LI.next (U := U) hV h1 h (by omega) (by omega) (by omega)).1⟩
theorem OpE.good {r : Int32} {U mc ms : Nat} {f : St → St} (hr : rm.cells = 0 ∧ rm.slots = 0 ∧ rm.frames ≤ 6 ∧ rm.locals ≤ 200) (hV : VW y v [] []) (hL : Ct l yL wsL { frames := 15, cells := mc, slots := ms, locals := 600 } E (.ref (aD E) :: (as ++ [.ref (aO E)])) y (fun o z => o = some (.int (nI 0)) ∧ VW z (vOU u (g r)) [] []) mc ms)
    (hu : u.x.FM = v.x.FM ∧ u.x.AM = v.x.AM) (hM : ∀ y1, y1.FM = y.FM → y1.AM = y.AM → Ct l yM wsM rm E (.ref (aM E) :: as) y1 (fun o z => o = some (.int r) ∧ z = f y1) 0 0 ∧ co (f y1) = co y1 ∧ SM u (f y1) v.x T ∧ (f y1).FM 0 = nI 0)
    (hb : U + PH u.q + T ≤ 40 * (t + 1)) (hc : cs + mc ≤ 1000 + 2 * U + (t + 1)) (hs : sl + ms ≤ 100000 + 103 * U + 6 * (t + 1)) : OpE l E yL wsL yM wsM g as y t cs sl := by
  have key : ∀ y1, VW y1 (vOU u (g r)) [] [] → y1.FM = y.FM ∧ y1.AM = y.AM := fun y1 h => ⟨h.fm.1.trans (hu.1.trans hV.fm.1.symm), h.fm.2.trans (hu.2.trans hV.fm.2.symm)⟩
  refine ⟨nI 0, r, mc, ms, rm, fun w => VW w (vOU u (g r)) [] [], fun w => ∃ y1, VW y1 (vOU u (g r)) [] [] ∧ w = f y1, hr, ⟨by omega, by omega⟩, hL, ?_, ?_⟩
  · intro y1 h1
    obtain ⟨k1, k2⟩ := key y1 h1
    exact (hM y1 k1 k2).1.imp fun o z h => ⟨h.1, y1, h1, h.2⟩
  · rintro y2 ⟨y1, h1, rfl⟩
    obtain ⟨k1, k2⟩ := key y1 h1
    obtain ⟨-, m2, m3, m4⟩ := hM y1 k1 k2
    obtain ⟨n1, n2⟩ := LI.next (U := U) (t := t + 1) (cs := cs + mc) (sl := sl + ms) h1 m2 m3.ou hb hc hs
    exact ⟨m4, fun _ => n2, n1⟩
theorem cOr (a : Int32) : badC a ∨ ∃ i : Nat, i < 4 ∧ a = nI i := by
  by_cases h : badC a
  · exact Or.inl h
  · simp only [not_or] at h
    obtain ⟨j, hj, rfl⟩ := nI_of h.1
    refine Or.inr ⟨j, ?_, rfl⟩
    have := h.2
    rw [nI_leI (by omega) hj] at this
    omega
theorem lOr (a : Int32) : badL a ∨ ∃ i : Nat, i < 16 ∧ a = nI i := by
  by_cases h : badL a
  · exact Or.inl h
  · simp only [not_or] at h
    obtain ⟨j, hj, rfl⟩ := nI_of h.1
    refine Or.inr ⟨j, ?_, rfl⟩
    have := h.2
    rw [nI_leI (by omega) hj] at this
    omega
theorem bOr (a : Int32) {n : Nat} (hn : n < 2 ^ 31) : (a < 0 ∨ nI n ≤ a) ∨ ∃ i : Nat, i < n ∧ a = nI i := by
  by_cases h : a < 0 ∨ nI n ≤ a
  · exact Or.inl h
  · simp only [not_or] at h
    obtain ⟨j, hj, rfl⟩ := nI_of h.1
    refine Or.inr ⟨j, ?_, rfl⟩
    have := h.2
    rw [nI_leI hn hj] at this
    omega
theorem uOr (a : Int32) {n : Nat} (hn : n < 2 ^ 31) : (a < 0 ∨ nI n < a) ∨ ∃ i : Nat, i ≤ n ∧ a = nI i := by
  by_cases h : a < 0 ∨ nI n < a
  · exact Or.inl h
  · simp only [not_or] at h
    obtain ⟨j, hj, rfl⟩ := nI_of h.1
    refine Or.inr ⟨j, ?_, rfl⟩
    have := h.2
    rw [nI_ltI hn hj] at this
    omega
end LI
