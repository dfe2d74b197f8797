def vq (v : Vw) (j : Nat) (l : List M7) : Vw := Vw.mk v.x (va_up v.q j l)
theorem vq_x (v : Vw) (j : Nat) (l : List M7) : (vq v j l).x = v.x := rfl
theorem vq_q (v : Vw) (j : Nat) (l : List M7) : (vq v j l).q = va_up v.q j l := rfl
/-- the contents at place k of list j -/
def mat (v : Vw) (j k : Nat) : M7 := ((v.q j)[k]?).getD (fun _ => 0)
theorem VW.less {x : St} {v : Vw} {p hs : List (Nat × M7)} {a : Nat × M7} (h : VW x v p (a :: hs)) : VW x v p hs := by
  obtain ⟨h1, L, h2, h3, h4, h5⟩ := h
  exact ⟨h1, L, h2, h3, h4, fun m hm => h5 m (List.mem_cons_of_mem _ hm)⟩
/-- the lists of a view without pending message -/
theorem VW.lists {x : St} {v : Vw} {hs : List (Nat × M7)} (h : VW x v [] hs) : ∃ L, WFL x L ∧ (∀ j, j < 17 → v.q j = (L j).map x.MF) ∧ ∀ m ∈ hs, m.1 ∈ x.PL ∧ x.PK m.1 = true ∧ x.MF m.1 = m.2 ∧ ∀ j, j < 17 → m.1 ∉ L j := by
  obtain ⟨h1, L, h2, h3, h4, h5⟩ := h
  rw [Lp_nil] at h2 h5
  exact ⟨L, h2, h3, h5⟩
theorem VW.of {x : St} {v : Vw} {hs : List (Nat × M7)} {L : Nat → List Nat} (h1 : er x = v.x) (h2 : WFL x L) (h3 : ∀ j, j < 17 → v.q j = (L j).map x.MF) (h5 : ∀ m ∈ hs, m.1 ∈ x.PL ∧ x.PK m.1 = true ∧ x.MF m.1 = m.2 ∧ ∀ j, j < 17 → m.1 ∉ L j) : VW x v [] hs := by
  refine ⟨h1, L, ?_, h3, fun m hm => by simp at hm, ?_⟩ <;> rw [Lp_nil]
  · exact h2
  · exact h5
/-- taking out of a list -/
theorem VW.rem {x y : St} {v : Vw} {hs : List (Nat × M7)} {L : Nat → List Nat} {j k a b : Nat} (h1 : er x = v.x) (h2 : WFL x L) (h3 : ∀ j, j < 17 → v.q j = (L j).map x.MF) (h5 : ∀ m ∈ hs, m.1 ∈ x.PL ∧ x.PK m.1 = true ∧ x.MF m.1 = m.2 ∧ ∀ j, j < 17 → m.1 ∉ L j) (hj : j < 17) (hk : (L j)[k]? = some a) (hD : x.LD j = some b) (hR : RemP x y j k (L j).length b) : VW y (vq v j ((v.q j).eraseIdx k)) [] ((a, mat v j k) :: hs) := by
  have hkl := (List.getElem?_eq_some_iff.mp hk).1
  obtain ⟨r0, r1, r2, r3, -⟩ := hR.acc
  have hno := h2.rem_no hj hk
  refine VW.of (L := va_up L j ((L j).eraseIdx k)) (r0.trans h1) (h2.rem hj hkl hD hR) (fun i hi => ?_) (fun m hm => ?_)
  · rw [vq_q, r3]
    by_cases hij : i = j
    · subst hij
      rw [va_up_self, va_up_self, h3 i hi]
      apply List.ext_getElem?
      intro t
      rw [List.getElem?_map, List.getElem?_eraseIdx, List.getElem?_eraseIdx, List.getElem?_map, List.getElem?_map]
      split <;> rfl
    · rw [va_up_ne _ _ hij, va_up_ne _ _ hij]
      exact h3 i hi
  · rw [r1, r2, r3]
    rcases List.mem_cons.mp hm with rfl | hm
    · refine ⟨(h2.2.2.1 j a hj (List.mem_of_getElem? hk)).1, (h2.2.2.1 j a hj (List.mem_of_getElem? hk)).2, ?_, hno⟩
      show x.MF a = mat v j k
      unfold mat
      rw [h3 j hj, List.getElem?_map, hk]
      rfl
    · obtain ⟨g1, g2, g3, g4⟩ := h5 m hm
      refine ⟨g1, g2, g3, fun i hi hc => ?_⟩
      by_cases hij : i = j
      · subst hij
        rw [va_up_self] at hc
        exact g4 i hi (List.mem_of_mem_eraseIdx hc)
      · rw [va_up_ne _ _ hij] at hc
        exact g4 i hi hc
/-- adding a held message to a list -/
theorem VW.addL {x y : St} {v : Vw} {hs : List (Nat × M7)} {L : Nat → List Nat} {j a : Nat} {m : M7} (h1 : er x = v.x) (h2 : WFL x L) (h3 : ∀ j, j < 17 → v.q j = (L j).map x.MF) (h5 : ∀ m' ∈ (a, m) :: hs, m'.1 ∈ x.PL ∧ x.PK m'.1 = true ∧ x.MF m'.1 = m'.2 ∧ ∀ j, j < 17 → m'.1 ∉ L j) (hne : ∀ m' ∈ hs, m'.1 ≠ a) (hj : j < 17) (hn : (L j).length ≤ 63) (hA : AddP x y j (L j).length a) :
    er y = v.x ∧ WFL y (va_up L j (L j ++ [a])) ∧ (∀ i, i < 17 → v.q i = (L i).map y.MF) ∧ y.MF a = m ∧ ∀ m' ∈ hs, m'.1 ∈ y.PL ∧ y.PK m'.1 = true ∧ y.MF m'.1 = m'.2 ∧ ∀ i, i < 17 → m'.1 ∉ va_up L j (L j ++ [a]) i := by
  obtain ⟨g1, g2, g3, g4⟩ := h5 (a, m) (List.mem_cons_self ..)
  have hA' := hA
  obtain ⟨e1, e2, -⟩ := hA'
  refine ⟨e1.trans h1, h2.add hj hA hn g1 g2 g4, fun i hi => ?_, (e2 a g1).2.2.trans g3, fun m' hm => ?_⟩
  · rw [h3 i hi]
    exact List.map_congr_left fun c hc => ((e2 c (h2.2.2.1 i c hi hc).1).2.2).symm
  · obtain ⟨q1, q2, q3, q4⟩ := h5 m' (List.mem_cons_of_mem _ hm)
    refine ⟨(e2 _ q1).1, (e2 _ q1).2.1.trans q2, (e2 _ q1).2.2.trans q3, fun i hi hc => ?_⟩
    by_cases hij : i = j
    · subst hij
      rw [va_up_self] at hc
      rcases List.mem_append.mp hc with hc | hc
      · exact q4 i hi hc
      · exact hne m' hm (List.mem_singleton.mp hc)
    · rw [va_up_ne _ _ hij] at hc
      exact q4 i hi hc
theorem c_addP (l : Launch) (E : gE) (x : St) (v : Vw) (hs : List (Nat × M7)) (a : Nat) (m : M7) (hV : VW x v [] ((a, m) :: hs)) (hne : ∀ m' ∈ hs, m'.1 ≠ a) (hn : (v.q 16).length ≤ 63) : Ct l yJx4a65c_add_9ea2d wsJx4a65c_add_9ea2d { frames := 6, cells := 1, slots := 96, locals := 205 } E [.ref (aL E 16), .ref a] x (fun u y => u = some (.int (nI 1)) ∧ VW y v [(a, m)] hs) 1 96 := by
  obtain ⟨L, h2, h3, h5⟩ := hV.lists
  obtain ⟨g1, g2, -, -⟩ := h5 (a, m) (List.mem_cons_self ..)
  have hL : (L 16).length ≤ 63 := by rw [h3 16 (by decide), List.length_map] at hn; exact hn
  refine Ct.imp (c_add l E x L 16 a (by decide) h2 hL g1 g2) (fun u y hu => ⟨hu.1, ?_⟩)
  obtain ⟨f1, f2, f3, f4, f5⟩ := VW.addL hV.1 h2 h3 h5 hne (by decide) hL hu.2
  exact ⟨f1, L, f2, f3, fun m' hm => by rw [List.mem_singleton.mp hm]; exact f4, f5⟩
theorem c_addQ (l : Launch) (E : gE) (x : St) (v : Vw) (j a : Nat) (m : M7) (hj : j < 16) (hV : VW x v [] [(a, m)]) (hn : (v.q j).length ≤ 63) : Ct l yJx4a65c_add_9ea2d wsJx4a65c_add_9ea2d { frames := 6, cells := 1, slots := 96, locals := 205 } E [.ref (aL E j), .ref a] x (fun u y => u = some (.int (nI 1)) ∧ VW y (vq v j (v.q j ++ [m])) [] []) 1 96 := by
  obtain ⟨L, h2, h3, h5⟩ := hV.lists
  obtain ⟨g1, g2, -, -⟩ := h5 (a, m) (List.mem_cons_self ..)
  have hL : (L j).length ≤ 63 := by rw [h3 j (by omega), List.length_map] at hn; exact hn
  refine Ct.imp (c_add l E x L j a (by omega) h2 hL g1 g2) (fun u y hu => ⟨hu.1, ?_⟩)
  obtain ⟨f1, f2, f3, f4, f5⟩ := VW.addL hV.1 h2 h3 h5 (fun m' hm => by simp at hm) (by omega) hL hu.2
  refine VW.of (L := va_up L j (L j ++ [a])) f1 f2 (fun i hi => ?_) (fun m' hm => by simp at hm)
  rw [vq_q]
  by_cases hij : i = j
  · subst hij
    rw [va_up_self, va_up_self, List.map_append, ← f3 i hi, List.map_cons, List.map_nil, f4]
  · rw [va_up_ne _ _ hij, va_up_ne _ _ hij]
    exact f3 i hi
/-- the address at place k of list j -/
def atL (x : St) (j k a : Nat) : Prop := ∃ b, x.LD j = some b ∧ x.BR b k = some a
theorem atL.one {x : St} {j k a b : Nat} (h1 : atL x j k a) (h2 : atL x j k b) : a = b := by
  obtain ⟨c, g1, g2⟩ := h1
  obtain ⟨d, f1, f2⟩ := h2
  rw [g1] at f1
  cases f1
  exact Option.some.inj (g2.symm.trans f2)
theorem c_rem (l : Launch) (E : gE) (x : St) (v : Vw) (hs : List (Nat × M7)) (j k : Nat) (hj : j < 17) (hV : VW x v [] hs) (hk : k < (v.q j).length) : Ct l yJx4a65c_remove_915e3 wsJx4a65c_remove_915e3 { frames := 2, cells := 0, slots := 0, locals := 83 } E [.ref (aL E j), .int (nI k)] x (fun u y => ∃ a, u = some (.ref a) ∧ VW y (vq v j ((v.q j).eraseIdx k)) [] ((a, mat v j k) :: hs) ∧ atL x j k a) 0 0 := by
  obtain ⟨L, h2, h3, h5⟩ := hV.lists
  have hk' : k < (L j).length := by rw [h3 j hj, List.length_map] at hk; exact hk
  have ha := List.getElem?_eq_getElem hk'
  obtain ⟨bb, d1, -, -, -, -, -, -, d8, -⟩ := h2.data hj ha
  refine Ct.imp (c_remove l E x L j k _ hj h2 ha) (fun u y ⟨g1, b, g2, g3⟩ => ⟨_, g1, VW.rem hV.1 h2 h3 h5 hj ha g2 g3, bb, d1, d8⟩)
theorem c_get (l : Launch) (E : gE) (x : St) (v : Vw) (hs : List (Nat × M7)) (j k : Nat) (hj : j < 17) (hV : VW x v [] hs) (hk : k < (v.q j).length) : Ct l yJx4a65c_get_915e3 wsJx4a65c_get_915e3 { frames := 2, cells := 0, slots := 0, locals := 43 } E [.ref (aL E j), .int (nI k)] x (fun u y => ∃ a, u = some (.ref a) ∧ y = x ∧ a ∈ x.PL ∧ x.PK a = true ∧ (∀ i, x.MF a i = mat v j k i) ∧ atL x j k a) 0 0 := by
  obtain ⟨L, h2, h3, h5⟩ := hV.lists
  have hk' : k < (L j).length := by rw [h3 j hj, List.length_map] at hk; exact hk
  have ha := List.getElem?_eq_getElem hk'
  obtain ⟨b, d1, d2, d3, d4, d5, d6, d7, d8, d9⟩ := h2.data hj ha
  refine Ct.imp (c_Jx4a65c_get_915e3 l E x j k b _ _ hj d1 d2 d3 d4 d5 d6 d7 d8) (fun u y hu => ⟨_, hu.1, hu.2, (h2.2.2.1 j _ hj (List.getElem_mem hk')).1, (h2.2.2.1 j _ hj (List.getElem_mem hk')).2, fun i => ?_, b, d1, d8⟩)
  unfold mat
  rw [h3 j hj, List.getElem?_map, ha]
  rfl
theorem VW.size {x : St} {v : Vw} {hs : List (Nat × M7)} (h : VW x v [] hs) {j : Nat} (hj : j < 17) : x.FL j 2 = nI (v.q j).length ∧ (v.q j).length ≤ 64 := by
  obtain ⟨L, h2, h3, h5⟩ := h.lists
  obtain ⟨g1, g2, -⟩ := h2.1 j hj
  rw [h3 j hj, List.length_map]
  exact ⟨g1, g2⟩
/-- a new message is held -/
theorem VW.new {x : St} {v : Vw} {hs : List (Nat × M7)} {q : Nat} (h : VW x v [] hs) (hq : q ∉ x.PL) : VW (x.addM q) v [] ((q, fun _ => 0) :: hs) ∧ ∀ m' ∈ hs, m'.1 ≠ q := by
  obtain ⟨L, h2, h3, h5⟩ := h.lists
  have hn : ∀ c, c ∈ x.PL → c ≠ q := fun c hc e => hq (e ▸ hc)
  refine ⟨VW.of (L := L) (er_addM.trans h.1) ?_ (fun j hj => ?_) (fun m hm => ?_), fun m' hm => hn _ (h5 m' hm).1⟩
  · obtain ⟨a1, a2, a3, a4⟩ := h2
    refine ⟨fun j hj => ?_, a2, fun j b hj hb => ?_, a4⟩
    · obtain ⟨g1, g2, g3⟩ := a1 j hj
      refine ⟨g1, g2, ?_⟩
      rcases g3 with g3 | ⟨b, q1, q2, q3, q4⟩
      · exact Or.inl g3
      · exact Or.inr ⟨b, q1, List.mem_append_left _ q2, (va_up_ne _ _ (hn b q2)).trans q3, q4⟩
    · obtain ⟨g1, g2⟩ := a3 j b hj hb
      exact ⟨List.mem_append_left _ g1, (va_up_ne _ _ (hn b g1)).trans g2⟩
  · rw [h3 j hj]
    refine List.map_congr_left fun c hc => ?_
    show x.MF c = va_up x.MF q (fun _ => 0) c
    exact (va_up_ne _ _ (hn c (h2.2.2.1 j c hj hc).1)).symm
  · rcases List.mem_cons.mp hm with rfl | hm
    · exact ⟨List.mem_append_right _ (List.mem_singleton.mpr rfl), va_up_self _ _ _, va_up_self _ _ _, fun j hj hc => hq (h2.2.2.1 j q hj hc).1⟩
    · obtain ⟨g1, g2, g3, g4⟩ := h5 m hm
      exact ⟨List.mem_append_left _ g1, (va_up_ne _ _ (hn _ g1)).trans g2, (va_up_ne _ _ (hn _ g1)).trans g3, g4⟩
/-- a field of a held message is written -/
theorem VW.setH {x : St} {v : Vw} {a k : Nat} {w : Int32} {m : M7} {hs : List (Nat × M7)} (h : VW x v [] ((a, m) :: hs)) (hne : ∀ m' ∈ hs, m'.1 ≠ a) : VW (x.setMF a k w) v [] ((a, va_up m k w) :: hs) := by
  obtain ⟨L, h2, h3, h5⟩ := h.lists
  obtain ⟨g1, g2, g3, g4⟩ := h5 (a, m) (List.mem_cons_self ..)
  have hmf : ∀ b, b ≠ a → (x.setMF a k w).MF b = x.MF b := fun b hb => by rw [St.MF_setMF]; exact va_up_ne _ _ hb
  refine VW.of (L := L) (er_setMF.trans h.1) h2 (fun j hj => ?_) (fun m' hm => ?_)
  · rw [h3 j hj]
    exact List.map_congr_left fun c hc => (hmf c (fun e => g4 j hj (e ▸ hc))).symm
  · rcases List.mem_cons.mp hm with rfl | hm
    · refine ⟨g1, g2, ?_, g4⟩
      show (x.setMF a k w).MF a = va_up m k w
      rw [St.MF_setMF]
      show va_up x.MF a (va_up (x.MF a) k w) a = _
      rw [va_up_self, g3]
    · obtain ⟨q1, q2, q3, q4⟩ := h5 m' (List.mem_cons_of_mem _ hm)
      exact ⟨q1, q2, (hmf _ (hne m' hm)).trans q3, q4⟩
def mkM (k1 k2 k3 k4 : Int32) : M7 := va_up (va_up (va_up (va_up (va_up (va_up (va_up (fun _ => 0) 4 (-1)) 5 0) 6 (-1)) 0 k1) 1 k2) 2 k3) 3 k4
theorem in_X2_init_X2 : ∀ w ∈ wsX20, w ∈ wsX2_init := by decide +kernel
theorem lk_X2_init_9 : Cond.fieldLink RX2 9 "CacheDirectory$Message" "carried" "I" ∈ wsX2_init := by decide +kernel
theorem lk_X2_init_15 : Cond.fieldLink RX2 15 "CacheDirectory$Message" "count" "I" ∈ wsX2_init := by decide +kernel
theorem lk_X2_init_18 : Cond.fieldLink RX2 18 "CacheDirectory$Message" "requester" "I" ∈ wsX2_init := by decide +kernel
theorem lk_X2_init_21 : Cond.fieldLink RX2 21 "CacheDirectory$Message" "kind" "I" ∈ wsX2_init := by decide +kernel
theorem lk_X2_init_24 : Cond.fieldLink RX2 24 "CacheDirectory$Message" "line" "I" ∈ wsX2_init := by decide +kernel
theorem lk_X2_init_27 : Cond.fieldLink RX2 27 "CacheDirectory$Message" "sender" "I" ∈ wsX2_init := by decide +kernel
theorem lk_X2_init_30 : Cond.fieldLink RX2 30 "CacheDirectory$Message" "receiver" "I" ∈ wsX2_init := by decide +kernel
def s_X2_init (x : St) (a : Nat) (k1 : Int32) (k2 : Int32) (k3 : Int32) (k4 : Int32) : St :=
  let x1 := (x).setMF a 4 ((-1 : Int32))
  let x2 := (x1).setMF a 5 (nI 0)
  let x3 := (x2).setMF a 6 ((-1 : Int32))
  let x4 := (x3).setMF a 0 k1
  let x5 := (x4).setMF a 1 k2
  let x6 := (x5).setMF a 2 k3
  let x7 := (x6).setMF a 3 k4
  x7
set_option maxRecDepth 100000 in
set_option maxHeartbeats 400000 in
theorem c_X2_init (l : Launch) (E : gE) (x : St) (a : Nat) (k1 : Int32) (k2 : Int32) (k3 : Int32) (k4 : Int32) (ha : a ∈ x.PL) (hka : x.PK a = true) : Ct l yX2_init wsX2_init { frames := 1, cells := 0, slots := 0, locals := 40 } E [.ref a, .int k1, .int k2, .int k3, .int k4] x (fun v y => v = none ∧ y = s_X2_init x a k1 k2 k3 k4) 0 0 := by
  refine Ct.of (cc := cX2_init) (nL := 5) (ret := none) (by decide) rfl (Nat.le_of_ble_eq_true rfl) ?_
  intro p e s m args below meth c h hr hk hname
  refine g_lvs (lv' := [(0, _), (1, _), (2, _), (3, _), (4, _)]) rfl ?_
  refine g_aload_n h 0 dX2_init_0 rfl rfl ?_
  refine g_objInit h (by decide +kernel) (by decide +kernel) (by decide +kernel) (Nat.le_of_ble_eq_true rfl) (Nat.le_of_ble_eq_true rfl) dX2_init_1 ?_
  refine g_aload_n h 0 dX2_init_4 rfl rfl ?_
  refine g_iconst (v := -1) h dX2_init_5 (by decide) ?_
  refine g_put (C := RX2) (T := TX2) (N := 7) h 4 tyX2 (ws_Ms4 E (x) ha hka _) rfl in_X2_init_X2 tyX2_ok nmX2 (by decide) lk_X2_init_9 rfl rfl rfl rfl rfl (Nat.le_of_ble_eq_true rfl) dX2_init_6 ?_
  refine g_aload_n h 0 dX2_init_9 rfl rfl ?_
  refine g_iconst (v := nI 0) h dX2_init_10 (by decide) ?_
  refine g_put (C := RX2) (T := TX2) (N := 7) h 5 tyX2 (ws_Ms5 E (((x).setMF a 4 ((-1 : Int32)))) (by simp only [St.acc]; exact ha) (by simp only [St.acc]; exact hka) _) rfl in_X2_init_X2 tyX2_ok nmX2 (by decide) lk_X2_init_15 rfl rfl rfl rfl rfl (Nat.le_of_ble_eq_true rfl) dX2_init_11 ?_
  refine g_aload_n h 0 dX2_init_14 rfl rfl ?_
  refine g_iconst (v := -1) h dX2_init_15 (by decide) ?_
  refine g_put (C := RX2) (T := TX2) (N := 7) h 6 tyX2 (ws_Ms6 E (((((x).setMF a 4 ((-1 : Int32)))).setMF a 5 (nI 0))) (by simp only [St.acc]; exact ha) (by simp only [St.acc]; exact hka) _) rfl in_X2_init_X2 tyX2_ok nmX2 (by decide) lk_X2_init_18 rfl rfl rfl rfl rfl (Nat.le_of_ble_eq_true rfl) dX2_init_16 ?_
  refine g_aload_n h 0 dX2_init_19 rfl rfl ?_
  refine g_iload_n h 1 dX2_init_20 rfl rfl ?_
  refine g_putF (C := RX2) (T := TX2) (N := 7) h 0 tyX2 (ws_Ms0 E (((((((x).setMF a 4 ((-1 : Int32)))).setMF a 5 (nI 0))).setMF a 6 ((-1 : Int32)))) (by simp only [St.acc]; exact ha) (by simp only [St.acc]; exact hka) _) rfl in_X2_init_X2 tyX2_ok nmX2 (by decide) lk_X2_init_21 rfl rfl hname rfl rfl rfl rfl (Nat.le_of_ble_eq_true rfl) dX2_init_21 ?_
  refine g_aload_n h 0 dX2_init_24 rfl rfl ?_
  refine g_iload_n h 2 dX2_init_25 rfl rfl ?_
  refine g_putF (C := RX2) (T := TX2) (N := 7) h 1 tyX2 (ws_Ms1 E (((((((((x).setMF a 4 ((-1 : Int32)))).setMF a 5 (nI 0))).setMF a 6 ((-1 : Int32)))).setMF a 0 k1)) (by simp only [St.acc]; exact ha) (by simp only [St.acc]; exact hka) _) rfl in_X2_init_X2 tyX2_ok nmX2 (by decide) lk_X2_init_24 rfl rfl hname rfl rfl rfl rfl (Nat.le_of_ble_eq_true rfl) dX2_init_26 ?_
  refine g_aload_n h 0 dX2_init_29 rfl rfl ?_
  refine g_iload_n h 3 dX2_init_30 rfl rfl ?_
  refine g_putF (C := RX2) (T := TX2) (N := 7) h 2 tyX2 (ws_Ms2 E (((((((((((x).setMF a 4 ((-1 : Int32)))).setMF a 5 (nI 0))).setMF a 6 ((-1 : Int32)))).setMF a 0 k1)).setMF a 1 k2)) (by simp only [St.acc]; exact ha) (by simp only [St.acc]; exact hka) _) rfl in_X2_init_X2 tyX2_ok nmX2 (by decide) lk_X2_init_27 rfl rfl hname rfl rfl rfl rfl (Nat.le_of_ble_eq_true rfl) dX2_init_31 ?_
  refine g_aload_n h 0 dX2_init_34 rfl rfl ?_
  refine g_iload h 4 dX2_init_35 rfl ?_
  refine g_putF (C := RX2) (T := TX2) (N := 7) h 3 tyX2 (ws_Ms3 E (((((((((((((x).setMF a 4 ((-1 : Int32)))).setMF a 5 (nI 0))).setMF a 6 ((-1 : Int32)))).setMF a 0 k1)).setMF a 1 k2)).setMF a 2 k3)) (by simp only [St.acc]; exact ha) (by simp only [St.acc]; exact hka) _) rfl in_X2_init_X2 tyX2_ok nmX2 (by decide) lk_X2_init_30 rfl rfl hname rfl rfl rfl rfl (Nat.le_of_ble_eq_true rfl) dX2_init_37 ?_
  exact g_vret h hr hk dX2_init_40 (Nat.zero_le _) (Nat.zero_le _) ⟨rfl, Eq.symm rfl⟩
theorem VW.init {x : St} {v : Vw} {a : Nat} {k1 k2 k3 k4 : Int32} {hs : List (Nat × M7)} (h : VW x v [] ((a, fun _ => 0) :: hs)) (hne : ∀ m' ∈ hs, m'.1 ≠ a) : VW (s_X2_init x a k1 k2 k3 k4) v [] ((a, mkM k1 k2 k3 k4) :: hs) :=
  VW.setH (VW.setH (VW.setH (VW.setH (VW.setH (VW.setH (VW.setH h hne) hne) hne) hne) hne) hne) hne
theorem in_X3_send_X2 : ∀ w ∈ u_ws RX2 TX2 7, w ∈ wsX3_send := by decide +kernel
theorem in_X3_send_X3 : ∀ w ∈ wsX30, w ∈ wsX3_send := by decide +kernel
theorem lk_X3_send_10 : Cond.fieldLink RX3 10 "CacheDirectory$Network" "onTheWay" "Ljava/util/ArrayList;" ∈ wsX3_send := by decide +kernel
set_option maxRecDepth 100000 in
set_option maxHeartbeats 400000 in
theorem c_X3_send (l : Launch) (E : gE) (x : St) (k1 : Int32) (k2 : Int32) (k3 : Int32) (k4 : Int32) (v : Vw) (hs : List (Nat × M7)) (hV : VW x v [] hs) (hn : (v.q 16).length ≤ 63) : Ct l yX3_send wsX3_send { frames := 7, cells := 2, slots := 103, locals := 235 } E [.ref (aN E), .int k1, .int k2, .int k3, .int k4] x (fun u y => ∃ a, u = some (.ref a) ∧ VW y v [(a, mkM k1 k2 k3 k4)] hs) 2 103 := by
  refine Ct.of (cc := cX3_send) (nL := 6) (ret := (some (.object "CacheDirectory$Message"))) (by decide) rfl (Nat.le_of_ble_eq_true rfl) ?_
  intro p e s m args below meth c h hr hk hname
  refine g_lvs (lv' := [(0, _), (1, _), (2, _), (3, _), (4, _)]) rfl ?_
  refine g_newM h in_X3_send_X2 (by decide +kernel) (by decide +kernel) (by decide +kernel) (by dsimp only; omega) (by dsimp only; omega) dX3_send_0 (fun q hq => ?_)
  obtain ⟨hV1, hne⟩ := hV.new hq
  have hq1 := (hV1.held (List.mem_cons_self ..)).1
  have hq2 := (hV1.held (List.mem_cons_self ..)).2.1
  refine g_dup h dX3_send_3 rfl ?_
  refine g_iload_n h 1 dX3_send_4 rfl rfl ?_
  refine g_iload_n h 2 dX3_send_5 rfl rfl ?_
  refine g_iload_n h 3 dX3_send_6 rfl rfl ?_
  refine g_iload h 4 dX3_send_7 rfl ?_
  refine g_callI (As := [.int k1, .int k2, .int k3, .int k4]) h 4 (c_X2_init l E _ q k1 k2 k3 k4 hq1 hq2) rfl gX3_send_X2_init rfl rfl rfl rfl (by decide +kernel) (by decide +kernel) (by decide +kernel) rfl (by decide +kernel) ⟨Nat.le_of_ble_eq_true rfl, Nat.le_of_ble_eq_true rfl⟩ dX3_send_9 ⟨by dsimp only; omega, by dsimp only; omega⟩ (Nat.le_of_ble_eq_true rfl) ?_
  rintro _ _ ⟨rfl, hy⟩
  obtain rfl := hy.symm
  dsimp only [Option.toList, List.cons_append, List.nil_append]
  have hV2 := VW.init (k1 := k1) (k2 := k2) (k3 := k3) (k4 := k4) hV1 hne
  refine g_gen hV2 (fun z hV3 => ?_)
  refine g_astore (lv' := [(0, _), (1, _), (2, _), (3, _), (4, _), (5, _)]) h [1, 2, 3, 4, 5, 0] dX3_send_12 (by decide) rfl ?_
  refine g_aload_n h 0 dX3_send_14 rfl rfl ?_
  refine g_get (C := RX3) (T := TX3) (N := 1) h 0 (wat_N E _) rfl in_X3_send_X3 (by decide) lk_X3_send_10 rfl rfl dX3_send_15 ?_
  refine g_aload h 5 dX3_send_18 rfl ?_
  refine g_callV (As := [.ref q]) (C := RJx4a65c) h 1 (c_addP l E z v hs q _ hV3 hne hn) rfl gX3_send_Jx4a65c_add_9ea2d rfl rfl rfl rfl (by decide +kernel) ⟨Nat.le_of_ble_eq_true rfl, Nat.le_of_ble_eq_true rfl⟩ (wat_L E _ (by omega)) rfl rfl dX3_send_20 ⟨by dsimp only; omega, by dsimp only; omega⟩ (Nat.le_of_ble_eq_true rfl) ?_
  rintro _ y ⟨rfl, hW⟩
  dsimp only [Option.toList, List.cons_append, List.nil_append]
  refine g_pop h dX3_send_23 rfl ?_
  refine g_aload h 5 dX3_send_24 rfl ?_
  exact g_aret h hr hk (Or.inl ⟨_, rfl⟩) (Or.inr ⟨_, rfl⟩) dX3_send_26 (by omega) (by omega) ⟨q, rfl, hW⟩
