/-! ===== the view: the state without the pool, and for each list the messages in it (0 to 15 the homes' queues, 16 the way) ===== -/
abbrev M7 : Type := Nat → Int32
def Vw : Type := St × (Nat → List M7)
def Vw.x (v : Vw) : St := (show St × (Nat → List M7) from v).1
def Vw.q (v : Vw) : Nat → List M7 := (show St × (Nat → List M7) from v).2
def Vw.mk (x : St) (q : Nat → List M7) : Vw := (show St × (Nat → List M7) from (x, q))
/-- the state, its pool and lists left out -/
def er (x : St) : St := St.mk x.FC x.FR x.AC x.FH (fun _ _ => 0) (fun _ => none) x.FM x.AM x.OU [] (fun _ => false) (fun _ _ => 0) (fun _ => 0) (fun _ _ => none)
/-- the lists hold L -/
def WFL (x : St) (L : Nat → List Nat) : Prop :=
  (∀ j : Nat, j < 17 → x.FL j 2 = nI (L j).length ∧ (L j).length ≤ 64 ∧ ((x.LD j = none ∧ L j = []) ∨ ∃ a, x.LD j = some a ∧ a ∈ x.PL ∧ x.PK a = false ∧ 10 ≤ x.BN a ∧ x.BN a ≤ 96 ∧ (L j).length ≤ x.BN a ∧ ∀ k b : Nat, (L j)[k]? = some b → x.BR a k = some b)) ∧
  (∀ j k a : Nat, j < 17 → k < 17 → x.LD j = some a → x.LD k = some a → j = k) ∧
  (∀ j b : Nat, j < 17 → b ∈ L j → b ∈ x.PL ∧ x.PK b = true) ∧
  (∀ j k p q b : Nat, j < 17 → k < 17 → (L j)[p]? = some b → (L k)[q]? = some b → j = k ∧ p = q)
/-- the lists with the pending message at the way's end -/
def Lp (L : Nat → List Nat) (p : List (Nat × M7)) : Nat → List Nat := va_up L 16 (L 16 ++ p.map Prod.fst)
/-- the state x shows v; p: a message just sent, of which fields are still to come; hs: messages held by the running methods -/
def VW (x : St) (v : Vw) (p hs : List (Nat × M7)) : Prop :=
  er x = v.x ∧ ∃ L : Nat → List Nat, WFL x (Lp L p) ∧ (∀ j, j < 17 → v.q j = (L j).map x.MF) ∧ (∀ m ∈ p, x.MF m.1 = m.2) ∧
    ∀ m ∈ hs, m.1 ∈ x.PL ∧ x.PK m.1 = true ∧ x.MF m.1 = m.2 ∧ ∀ j, j < 17 → m.1 ∉ Lp L p j
theorem VW.cast {x : St} {v w : Vw} {p hs : List (Nat × M7)} (h : VW x v p hs) (e : v = w) : VW x w p hs := e ▸ h
theorem VW.FC {x : St} {v : Vw} {p hs : List (Nat × M7)} (h : VW x v p hs) (i m : Nat) : x.FC i m = v.x.FC i m := by rw [← h.1]; rfl
theorem VW.FR {x : St} {v : Vw} {p hs : List (Nat × M7)} (h : VW x v p hs) (i m : Nat) : x.FR i m = v.x.FR i m := by rw [← h.1]; rfl
theorem VW.AC {x : St} {v : Vw} {p hs : List (Nat × M7)} (h : VW x v p hs) (i a j : Nat) : x.AC i a j = v.x.AC i a j := by rw [← h.1]; rfl
theorem VW.FH {x : St} {v : Vw} {p hs : List (Nat × M7)} (h : VW x v p hs) (i m : Nat) : x.FH i m = v.x.FH i m := by rw [← h.1]; rfl
theorem VW.FM {x : St} {v : Vw} {p hs : List (Nat × M7)} (h : VW x v p hs) (m : Nat) : x.FM m = v.x.FM m := by rw [← h.1]; rfl
theorem VW.AM {x : St} {v : Vw} {p hs : List (Nat × M7)} (h : VW x v p hs) (r j : Nat) : x.AM r j = v.x.AM r j := by rw [← h.1]; rfl
theorem VW.OU {x : St} {v : Vw} {p hs : List (Nat × M7)} (h : VW x v p hs) : x.OU = v.x.OU := by rw [← h.1]; rfl
def vFC (v : Vw) (i m : Nat) (w : Int32) : Vw := Vw.mk (v.x.setFC i m w) v.q
theorem er_setFC (x : St) (i m : Nat) (w : Int32) : er (x.setFC i m w) = (er x).setFC i m w := rfl
theorem WFL.setFC {x : St} {L : Nat → List Nat} {i m : Nat} {w : Int32} (h : WFL x L) : WFL (x.setFC i m w) L := h
theorem VW.setFC {x : St} {v : Vw} {p hs : List (Nat × M7)} {i m : Nat} {w : Int32} (h : VW x v p hs) : VW (x.setFC i m w) (vFC v i m w) p hs := by
  obtain ⟨h1, L, h2, h3, h4, h5⟩ := h
  exact ⟨by rw [er_setFC, h1]; rfl, L, h2.setFC, h3, h4, h5⟩
def vFR (v : Vw) (i m : Nat) (w : Int32) : Vw := Vw.mk (v.x.setFR i m w) v.q
theorem er_setFR (x : St) (i m : Nat) (w : Int32) : er (x.setFR i m w) = (er x).setFR i m w := rfl
theorem WFL.setFR {x : St} {L : Nat → List Nat} {i m : Nat} {w : Int32} (h : WFL x L) : WFL (x.setFR i m w) L := h
theorem VW.setFR {x : St} {v : Vw} {p hs : List (Nat × M7)} {i m : Nat} {w : Int32} (h : VW x v p hs) : VW (x.setFR i m w) (vFR v i m w) p hs := by
  obtain ⟨h1, L, h2, h3, h4, h5⟩ := h
  exact ⟨by rw [er_setFR, h1]; rfl, L, h2.setFR, h3, h4, h5⟩
def vAC (v : Vw) (i a : Nat) (f : Nat → Int32) : Vw := Vw.mk (v.x.setAC i a f) v.q
theorem er_setAC (x : St) (i a : Nat) (f : Nat → Int32) : er (x.setAC i a f) = (er x).setAC i a f := rfl
theorem WFL.setAC {x : St} {L : Nat → List Nat} {i a : Nat} {f : Nat → Int32} (h : WFL x L) : WFL (x.setAC i a f) L := h
theorem VW.setAC {x : St} {v : Vw} {p hs : List (Nat × M7)} {i a : Nat} {f : Nat → Int32} (h : VW x v p hs) : VW (x.setAC i a f) (vAC v i a f) p hs := by
  obtain ⟨h1, L, h2, h3, h4, h5⟩ := h
  exact ⟨by rw [er_setAC, h1]; rfl, L, h2.setAC, h3, h4, h5⟩
def vFH (v : Vw) (i m : Nat) (w : Int32) : Vw := Vw.mk (v.x.setFH i m w) v.q
theorem er_setFH (x : St) (i m : Nat) (w : Int32) : er (x.setFH i m w) = (er x).setFH i m w := rfl
theorem WFL.setFH {x : St} {L : Nat → List Nat} {i m : Nat} {w : Int32} (h : WFL x L) : WFL (x.setFH i m w) L := h
theorem VW.setFH {x : St} {v : Vw} {p hs : List (Nat × M7)} {i m : Nat} {w : Int32} (h : VW x v p hs) : VW (x.setFH i m w) (vFH v i m w) p hs := by
  obtain ⟨h1, L, h2, h3, h4, h5⟩ := h
  exact ⟨by rw [er_setFH, h1]; rfl, L, h2.setFH, h3, h4, h5⟩
def vFM (v : Vw) (m : Nat) (w : Int32) : Vw := Vw.mk (v.x.setFM m w) v.q
theorem er_setFM (x : St) (m : Nat) (w : Int32) : er (x.setFM m w) = (er x).setFM m w := rfl
theorem WFL.setFM {x : St} {L : Nat → List Nat} {m : Nat} {w : Int32} (h : WFL x L) : WFL (x.setFM m w) L := h
theorem VW.setFM {x : St} {v : Vw} {p hs : List (Nat × M7)} {m : Nat} {w : Int32} (h : VW x v p hs) : VW (x.setFM m w) (vFM v m w) p hs := by
  obtain ⟨h1, L, h2, h3, h4, h5⟩ := h
  exact ⟨by rw [er_setFM, h1]; rfl, L, h2.setFM, h3, h4, h5⟩
def vAM (v : Vw) (r : Nat) (f : Nat → Int32) : Vw := Vw.mk (v.x.setAM r f) v.q
theorem er_setAM (x : St) (r : Nat) (f : Nat → Int32) : er (x.setAM r f) = (er x).setAM r f := rfl
theorem WFL.setAM {x : St} {L : Nat → List Nat} {r : Nat} {f : Nat → Int32} (h : WFL x L) : WFL (x.setAM r f) L := h
theorem VW.setAM {x : St} {v : Vw} {p hs : List (Nat × M7)} {r : Nat} {f : Nat → Int32} (h : VW x v p hs) : VW (x.setAM r f) (vAM v r f) p hs := by
  obtain ⟨h1, L, h2, h3, h4, h5⟩ := h
  exact ⟨by rw [er_setAM, h1]; rfl, L, h2.setAM, h3, h4, h5⟩
def vOU (v : Vw) (w : Int64) : Vw := Vw.mk (v.x.setOU w) v.q
theorem er_setOU (x : St) (w : Int64) : er (x.setOU w) = (er x).setOU w := rfl
theorem WFL.setOU {x : St} {L : Nat → List Nat} {w : Int64} (h : WFL x L) : WFL (x.setOU w) L := h
theorem VW.setOU {x : St} {v : Vw} {p hs : List (Nat × M7)} {w : Int64} (h : VW x v p hs) : VW (x.setOU w) (vOU v w) p hs := by
  obtain ⟨h1, L, h2, h3, h4, h5⟩ := h
  exact ⟨by rw [er_setOU, h1]; rfl, L, h2.setOU, h3, h4, h5⟩
theorem vacc : (∀ (v : Vw) (i m : Nat) (w : Int32), (vFC v i m w).x = v.x.setFC i m w) ∧ (∀ (v : Vw) (i m : Nat) (w : Int32), (vFC v i m w).q = v.q) ∧ (∀ (v : Vw) (i m : Nat) (w : Int32), (vFR v i m w).x = v.x.setFR i m w) ∧ (∀ (v : Vw) (i m : Nat) (w : Int32), (vFR v i m w).q = v.q) ∧ (∀ (v : Vw) (i a : Nat) (f : Nat → Int32), (vAC v i a f).x = v.x.setAC i a f) ∧ (∀ (v : Vw) (i a : Nat) (f : Nat → Int32), (vAC v i a f).q = v.q) ∧ (∀ (v : Vw) (i m : Nat) (w : Int32), (vFH v i m w).x = v.x.setFH i m w) ∧ (∀ (v : Vw) (i m : Nat) (w : Int32), (vFH v i m w).q = v.q) ∧ (∀ (v : Vw) (m : Nat) (w : Int32), (vFM v m w).x = v.x.setFM m w) ∧ (∀ (v : Vw) (m : Nat) (w : Int32), (vFM v m w).q = v.q) ∧ (∀ (v : Vw) (r : Nat) (f : Nat → Int32), (vAM v r f).x = v.x.setAM r f) ∧ (∀ (v : Vw) (r : Nat) (f : Nat → Int32), (vAM v r f).q = v.q) ∧ (∀ (v : Vw) (w : Int64), (vOU v w).x = v.x.setOU w) ∧ (∀ (v : Vw) (w : Int64), (vOU v w).q = v.q) := ⟨fun _ _ _ _ => rfl, fun _ _ _ _ => rfl, fun _ _ _ _ => rfl, fun _ _ _ _ => rfl, fun _ _ _ _ => rfl, fun _ _ _ _ => rfl, fun _ _ _ _ => rfl, fun _ _ _ _ => rfl, fun _ _ _ => rfl, fun _ _ _ => rfl, fun _ _ _ => rfl, fun _ _ _ => rfl, fun _ _ => rfl, fun _ _ => rfl⟩
/-- an array is written at a place -/
theorem VW.wAC {x : St} {v : Vw} {p hs : List (Nat × M7)} {i a j : Nat} {w : Int32} (h : VW x v p hs) : VW (x.setAC i a (upd (x.AC i a) j w)) (vAC v i a (upd (v.x.AC i a) j w)) p hs := by
  have e : x.AC i a = v.x.AC i a := funext fun k => h.AC i a k
  rw [← e]
  exact h.setAC
theorem VW.wAM {x : St} {v : Vw} {p hs : List (Nat × M7)} {r j : Nat} {w : Int32} (h : VW x v p hs) : VW (x.setAM r (upd (x.AM r) j w)) (vAM v r (upd (v.x.AM r) j w)) p hs := by
  have e : x.AM r = v.x.AM r := funext fun k => h.AM r k
  rw [← e]
  exact h.setAM
/-- the pending message is sent -/
def vsend (v : Vw) (m : M7) : Vw := Vw.mk v.x (va_up v.q 16 (v.q 16 ++ [m]))
theorem vsend_x (v : Vw) (m : M7) : (vsend v m).x = v.x := rfl
theorem vsend_q (v : Vw) (m : M7) : (vsend v m).q = va_up v.q 16 (v.q 16 ++ [m]) := rfl
theorem VW.close {x : St} {v : Vw} {a : Nat} {m : M7} {hs : List (Nat × M7)} (h : VW x v [(a, m)] hs) : VW x (vsend v m) [] hs := by
  obtain ⟨h1, L, h2, h3, h4, h5⟩ := h
  have e : Lp (Lp L [(a, m)]) [] = Lp L [(a, m)] := by
    funext j
    unfold Lp
    by_cases hj : j = 16
    · subst hj
      simp [va_up]
    · simp [va_up, hj]
  refine ⟨h1, Lp L [(a, m)], by rw [e]; exact h2, fun j hj => ?_, fun m hm => by simp at hm, fun m' hm => by rw [e]; exact h5 m' hm⟩
  have hm : x.MF a = m := h4 (a, m) (by simp)
  show va_up v.q 16 (v.q 16 ++ [m]) j = (Lp L [(a, m)] j).map x.MF
  by_cases hj16 : j = 16
  · subst hj16
    simp only [va_up, Lp, if_true, List.map_append, List.map_cons, List.map_nil, hm, h3 16 (by decide)]
  · simp only [va_up, Lp, if_neg hj16]
    exact h3 j hj
/-- a field of the pending message is written -/
theorem VW.setMF {x : St} {v : Vw} {a k : Nat} {w : Int32} {m : M7} {hs : List (Nat × M7)} (h : VW x v [(a, m)] hs) : VW (x.setMF a k w) v [(a, va_up m k w)] hs := by
  obtain ⟨h1, L, h2, h3, h4, h5⟩ := h
  have hm : x.MF a = m := h4 (a, m) (by simp)
  have hL : (Lp L [(a, m)] 16) = L 16 ++ [a] := by simp [Lp, va_up]
  have hlast : (Lp L [(a, m)] 16)[(L 16).length]? = some a := by rw [hL]; simp
  have hne : ∀ j, j < 17 → ∀ b ∈ L j, b ≠ a := by
    intro j hj b hb hba
    subst hba
    obtain ⟨q, hq⟩ := List.getElem?_of_mem hb
    have hq2 : (Lp L [(b, m)] j)[q]? = some b := by
      by_cases hj16 : j = 16
      · subst hj16
        rw [hL, List.getElem?_append_left (List.getElem?_eq_some_iff.mp hq).1]
        exact hq
      · simp only [Lp, va_up, if_neg hj16]
        exact hq
    obtain ⟨e1, e2⟩ := h2.2.2.2 j 16 q (L 16).length b hj (by decide) hq2 hlast
    subst e1
    have := (List.getElem?_eq_some_iff.mp hq).1
    omega
  have hmf : ∀ b, b ≠ a → (x.setMF a k w).MF b = x.MF b := fun b hb => by rw [St.MF_setMF]; exact va_up_ne _ _ hb
  refine ⟨h1, L, h2, fun j hj => ?_, fun m' hm' => ?_, fun m' hm' => ?_⟩
  · rw [h3 j hj]
    exact List.map_congr_left fun b hb => (hmf b (hne j hj b hb)).symm
  · simp only [List.mem_singleton] at hm'
    subst hm'
    show (x.setMF a k w).MF a = va_up m k w
    rw [St.MF_setMF]
    show va_up x.MF a (va_up (x.MF a) k w) a = _
    rw [va_up_self, hm]
  · obtain ⟨q1, q2, q3, q4⟩ := h5 m' hm'
    refine ⟨q1, q2, ?_, q4⟩
    rw [hmf _ (fun q => q4 16 (by decide) (by rw [hL, q]; simp))]
    exact q3
/-- a held message's fields -/
theorem VW.held {x : St} {v : Vw} {p hs : List (Nat × M7)} {a : Nat} {m : M7} (h : VW x v p hs) (hm : (a, m) ∈ hs) : a ∈ x.PL ∧ x.PK a = true ∧ ∀ k, x.MF a k = m k := by
  obtain ⟨h1, L, h2, h3, h4, h5⟩ := h
  obtain ⟨q1, q2, q3, -⟩ := h5 _ hm
  exact ⟨q1, q2, fun k => congrFun q3 k⟩
theorem VW.pend {x : St} {v : Vw} {hs : List (Nat × M7)} {a : Nat} {m : M7} (h : VW x v [(a, m)] hs) : a ∈ x.PL ∧ x.PK a = true ∧ ∀ k, x.MF a k = m k := by
  obtain ⟨h1, L, h2, h3, h4, h5⟩ := h
  have hL : a ∈ (Lp L [(a, m)] 16) := by simp [Lp, va_up]
  exact ⟨(h2.2.2.1 16 a (by decide) hL).1, (h2.2.2.1 16 a (by decide) hL).2, fun k => congrFun (h4 (a, m) (by simp)) k⟩
theorem eA_16 {E : gE} {i a : Nat} (ha : a < 3) (f : Nat → Int32) : eA E (4 * i + a) f = .inl (E.cid 0, 16, .inl f) := by
  unfold eA ealen
  rw [if_neg (by omega)]
theorem eA_4 {E : gE} {i : Nat} (f : Nat → Int32) : eA E (4 * i + 3) f = .inl (E.cid 0, 4, .inl f) := by
  unfold eA ealen
  rw [if_pos (by omega)]
theorem wat_A16 (E : gE) (x : St) {i a : Nat} (hi : i < 4) (ha : a < 3) : wat E x (aA E i a) (.inl (E.cid 0, 16, .inl (x.AC i a))) := by
  have := wat_A E x hi (show a < 4 by omega)
  rw [eA_16 ha] at this
  exact this
theorem wat_A4 (E : gE) (x : St) {i : Nat} (hi : i < 4) : wat E x (aA E i 3) (.inl (E.cid 0, 4, .inl (x.AC i 3))) := by
  have := wat_A E x hi (show 3 < 4 by omega)
  rw [eA_4] at this
  exact this
theorem ws_A16 (E : gE) (x : St) {i a : Nat} (hi : i < 4) (ha : a < 3) (f : Nat → Int32) : wsg E x (aA E i a) (.inl (E.cid 0, 16, .inl (x.AC i a))) (.inl (E.cid 0, 16, .inl f)) (x.setAC i a f) := by
  have := ws_A E x hi (show a < 4 by omega) f
  rw [eA_16 ha, eA_16 ha] at this
  exact this
theorem ws_A4 (E : gE) (x : St) {i : Nat} (hi : i < 4) (f : Nat → Int32) : wsg E x (aA E i 3) (.inl (E.cid 0, 4, .inl (x.AC i 3))) (.inl (E.cid 0, 4, .inl f)) (x.setAC i 3 f) := by
  have := ws_A E x hi (show 3 < 4 by omega) f
  rw [eA_4, eA_4] at this
  exact this
section GV
variable {p : Program} {l : Launch} {e : Env} {R : Room} {s : State} {m : MethodId} {args : Array Value} {below : List Frame} {meth : Method} {c : Code} {Q : State → Prop} {E : gE} {S0 x : St} {nL cs sl pc : Nat} {lv : List (Nat × Value)} {st : List Value} {v : Vw} {pn hs : List (Nat × M7)}
theorem g_vw (h : VW x v pn hs) (kk : VW x v pn hs → G p l e R s m args below meth c Q E S0 nL cs sl x pc lv st) : G p l e R s m args below meth c Q E S0 nL cs sl x pc lv st := kk h
theorem g_gen (h : VW x v pn hs) (kk : ∀ y : St, VW y v pn hs → G p l e R s m args below meth c Q E S0 nL cs sl y pc lv st) : G p l e R s m args below meth c Q E S0 nL cs sl x pc lv st := kk x h
end GV
theorem bz {w : Int32} (h : w = 0 ∨ w = 1) : narrow .boolean (.int w) = .int w ∧ fits .boolean (.int w) = true := by
  rcases h with rfl | rfl <;> exact ⟨rfl, rfl⟩
/-- the accessors over the view's setters -/
theorem Vw.acc : (∀ x q, (Vw.mk x q).x = x) ∧ (∀ x q, (Vw.mk x q).q = q) := ⟨fun _ _ => rfl, fun _ _ => rfl⟩
