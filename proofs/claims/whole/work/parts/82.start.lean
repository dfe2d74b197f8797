theorem law_w {w : Cond} (j i : Nat) (h : (lawC[j]?).bind (fun c => c[i]?) = some w) : w ∈ wsL_law := by
  cases hc : lawC[j]? with
  | none => rw [hc] at h; cases h
  | some c => rw [hc] at h; exact lawC_in c (List.mem_of_getElem? hc) w (List.mem_of_getElem? h)
theorem inlX5 : ∀ w ∈ u_ws RX5 TX5 3, w ∈ wsL_law := lawC_in wsX50 (List.mem_of_getElem? (i := 34) rfl)
theorem inlX6 : ∀ w ∈ u_ws RX6 TX6 29, w ∈ wsL_law := lawC_in wsX60 (List.mem_of_getElem? (i := 35) rfl)
/-! THE CLAIM OUT OF ONE WALK OF THE LAW'S BODY. Your part is whole_start (and what it stands on); all else here is the same for every law, but numbers. -/
def R_law : String := "CacheDirectoryLaw"
def lw_P (b : Addr) (xs : List Int32) (args : Array Value) (s : State) : Prop := args = #[.ref b] ∧ s.IntsAt b xs ∧ xs.length ≤ 2048 ∧ (Jvm.Cond.and given_1 narrow_1).before args s = true
def lw_Q (_ : Array Value) (s : State) (o : Outcome) (t : State) : Prop := o = .returned (some (.int 1)) ∧ Framed s o t [] 601024 7293034
def lw_Z (below : List Frame) (a : Array Value) (s : State) : State → Prop := fun t => ∃ o, t.status = .running ∧ Ended t below o ∧ lw_Q a s o t
/-- the law's own end, with 1 on the stack, nothing written that was there before, its room as the claim has it -/
theorem lw_ret {p : Program} {l : Launch} {e : Env} {s : State} {m : MethodId} {below : List Frame} {meth : Method} {c : Code} {b : Nat} (hx : p.tables.exec = Jvm.exec) (hb : c.code = code) (hr : meth.sig.returnType = ret) (hlocks : meth.locks = false) {pc : Nat} {H : Heap} {ls : Array Slot} (hdg : decode code pc = .ok (.ireturn, 1)) : W p l e room_1 s m #[Value.ref b] below meth c H [] 601024 7293034 (lw_Z below #[Value.ref b] s) (F0 m pc ls [.int 1]) := by
  intro T hT X
  obtain ⟨fs, hret, hrun, hended, hW, hframe⟩ := X.leave (v := some (.int 1)) (hlocks := hlocks) (fun h => by rw [hr] at h; cases h)
  have hmeth' : T.vm.method? m = some meth := X.method'
  refine ⟨T.setFrames fs, ?_, .returned (some (.int 1)), hrun, hended, rfl, ⟨_, rfl⟩, hW, hframe⟩
  jvm_step X.here [X.here.top, hx, hb, hdg, hmeth', hr, ret, narrow_b1]
  (try refine ⟨rfl, ?_⟩); (try refine ⟨rfl, ?_⟩)
  first | (intro acts; rw [hret _ acts rfl rfl rfl]) | rw [hret _ _ rfl rfl rfl]
  exact Steps.refl _
/-- what holds at the law's entry: the machine, the code, the tables' words (any of lw_tbl by 'hts w (by decide +kernel)'), the script of L ints xs at the cell b, what the Statement gives of the start (any of its parts by flat_of_before) -/
def lw_At (p : Program) (s : State) (m : MethodId) (meth : Method) (c : Code) (b L : Nat) (xs : Nat → Int32) : Prop :=
  p.tables.exec = Jvm.exec ∧ c.code = code ∧ meth.sig.returnType = ret ∧ c.maxLocals = 7 ∧ s.vm.findClass R_law = some m.cls ∧ (∀ w ∈ lw_tbl, w.before #[Value.ref b] s = true) ∧ va_X b L xs s s.heap ∧ b < s.heap.size ∧ meth.locks = false ∧ (Jvm.Cond.and given_1 narrow_1).before #[Value.ref b] s = true
set_option maxRecDepth 100000 in
theorem whole_start {p : Program} {e : Env} {s : State} {m : MethodId} {below : List Frame} {meth : Method} {c : Code} (l : Launch) (hflags : l.flags = flags0) {b L : Nat} {xs : Nat → Int32} (hL : L ≤ 2048) (C0 : lw_At p s m meth c b L xs) : W p l e room_1 s m #[Value.ref b] below meth c s.heap [] 0 0 (lw_Z below #[Value.ref b] s) (entryFrame m ([Value.ref b] : List Value).toArray 7) := by
  obtain ⟨hx, hb, hr, hml, hown, hts, hX, hbl, hlocks, hgv⟩ := C0
  have hlt : l.stackTraces = false := by
    unfold Launch.stackTraces
    rw [hflags]
    decide +kernel
  have hs := flat_of_before _ hgv
  obtain ⟨D, cid, hK⟩ := st_K hts
  obtain ⟨z, sa, hZ⟩ := st_Z hts (fun w hw => hs w (st_fl_in w hw))
  obtain ⟨E, e1, e2, e3, e4⟩ : ∃ E : gE, E.D = D ∧ E.cid = cid ∧ E.z = z ∧ E.sa = sa := ⟨(show gET from (D, (fun _ => 0), cid, z, sa)), rfl, rfl, rfl, rfl⟩
  obtain ⟨hZE, hN⟩ := hZ E e3 e4
  have h : lO p s m #[Value.ref b] c cL_law 7 RL wsL_law E (fun q => s.heap.size ≤ q) := ⟨hx, hb, hml, hown, fun w hw => hts w (wsL_law_in w hw), hK E e1 e2, hZE, hN, fun _ hq => hq⟩
  have hP0 : va_P E.D vwCl [] s.heap := fun k q hq => by simp at hq
  have hD0 : va_D (fun q => s.heap.size ≤ q) [] := ⟨fun i j p q hp => by simp at hp, fun k q hq => by simp at hq⟩
  rw [lg_entry_eq]
  refine (show GL p l e room_1 s m #[Value.ref b] below meth c (lw_Z below #[Value.ref b] s) E (fun q => s.heap.size ≤ q) 7 0 0 [] 0 [(0, .ref b)] [] from ?_) s.heap [] _ hP0 hD0 va_S.rf (lv_entry [.ref b] (Nat.le_of_ble_eq_true rfl))
  refine l_new (ci := 6) (fs := [.null, .null, .null]) (C := RX5) (T := TX5) (N := 3) h tyX5 rfl (fun w hw => inlX5 w hw) tyX5_ok (law_w 0 0 (by decide +kernel)) (law_w 0 1 (by decide +kernel)) (law_w 0 2 (by decide +kernel)) (fun j hj => by rcases (show j = 0 ∨ j = 1 ∨ j = 2 by omega) with rfl | rfl | rfl <;> rfl) (Nat.le_of_ble_eq_true rfl) (Nat.le_of_ble_eq_true rfl) dL_law_0 (fun d => ?_)
  refine l_dup h dL_law_3 rfl ?_
  refine l_callI (As := []) h 0 (k_X5 l E [] d) rfl gL_law_X5_init rfl rfl rfl rfl (law_w 0 2 (by decide +kernel)) (law_w 0 7 (by decide +kernel)) (law_w 0 8 (by decide +kernel)) rfl (by decide +kernel) ⟨Nat.le_of_ble_eq_true rfl, Nat.le_of_ble_eq_true rfl⟩ dL_law_4 ⟨Nat.le_of_ble_eq_true rfl, Nat.le_of_ble_eq_true rfl⟩ (Nat.le_of_ble_eq_true rfl) ?_
  rintro _ _ ⟨rfl, n, b1, c1, h1, bf, hf, rfl⟩
  rw [show ((none : Option Value).toList ++ ([Value.ref d] : List Value)) = [Value.ref d] from rfl]
  refine l_astore_n (lv' := [(0, .ref b), (1, .ref d)]) h [1, 0] dL_law_7 rfl (by decide) rfl ?_
  refine l_w (w' := (([] : va_W) ++ ((d, .inr (6, [.ref n, .ref c1, .ref h1])) :: (n, .inr (4, [.ref b1])) :: (b1, .inr (0, [.int (nI 0), .ref E.z, .int 0])) :: (c1, .inl (E.cid 2, 4, .inr (.inr (.inr (.inr (k_car bf 4)))))) :: (k_cbl E n bf 4 ++ ((h1, .inl (E.cid 3, 16, .inr (.inr (.inr (.inr (k_car hf 16)))))) :: k_hbl E n hf 16))))) rfl ?_
  refine l_new (ci := 7) (fs := [.int 0, .null, .null, .null, .null, .null, .null, .int 0, .null, .null, .null, .null, .null, .null, .null, .null, .null, .null, .null, .null, .null, .null, .null, .null, .int 0, .int 0, .null, .int 0, .null]) (C := RX6) (T := TX6) (N := 29) h tyX6 rfl (fun w hw => inlX6 w hw) tyX6_ok (law_w 0 3 (by decide +kernel)) (law_w 0 4 (by decide +kernel)) (law_w 0 5 (by decide +kernel)) (fun j hj => by rcases (show j = 0 ∨ j = 1 ∨ j = 2 ∨ j = 3 ∨ j = 4 ∨ j = 5 ∨ j = 6 ∨ j = 7 ∨ j = 8 ∨ j = 9 ∨ j = 10 ∨ j = 11 ∨ j = 12 ∨ j = 13 ∨ j = 14 ∨ j = 15 ∨ j = 16 ∨ j = 17 ∨ j = 18 ∨ j = 19 ∨ j = 20 ∨ j = 21 ∨ j = 22 ∨ j = 23 ∨ j = 24 ∨ j = 25 ∨ j = 26 ∨ j = 27 ∨ j = 28 by omega) with rfl | rfl | rfl | rfl | rfl | rfl | rfl | rfl | rfl | rfl | rfl | rfl | rfl | rfl | rfl | rfl | rfl | rfl | rfl | rfl | rfl | rfl | rfl | rfl | rfl | rfl | rfl | rfl | rfl <;> rfl) (Nat.le_of_ble_eq_true rfl) (Nat.le_of_ble_eq_true rfl) dL_law_8 (fun m1 => ?_)
  refine l_dup h dL_law_11 rfl ?_
  refine l_callI (As := []) h 0 (k_X6 l E (([] : va_W) ++ ((d, .inr (6, [.ref n, .ref c1, .ref h1])) :: (n, .inr (4, [.ref b1])) :: (b1, .inr (0, [.int (nI 0), .ref E.z, .int 0])) :: (c1, .inl (E.cid 2, 4, .inr (.inr (.inr (.inr (k_car bf 4)))))) :: (k_cbl E n bf 4 ++ ((h1, .inl (E.cid 3, 16, .inr (.inr (.inr (.inr (k_car hf 16)))))) :: k_hbl E n hf 16)))) m1) rfl gL_law_X6_init rfl rfl rfl rfl (law_w 0 5 (by decide +kernel)) (law_w 3 16 (by decide +kernel)) (law_w 3 17 (by decide +kernel)) rfl (by decide +kernel) ⟨Nat.le_of_ble_eq_true rfl, Nat.le_of_ble_eq_true rfl⟩ dL_law_12 ⟨Nat.le_of_ble_eq_true rfl, Nat.le_of_ble_eq_true rfl⟩ (Nat.le_of_ble_eq_true rfl) ?_
  rintro _ _ ⟨rfl, f, rfl⟩
  rw [show ((none : Option Value).toList ++ ([Value.ref m1] : List Value)) = [Value.ref m1] from rfl]
  refine l_astore_n (lv' := [(0, .ref b), (1, .ref d), (2, .ref m1)]) h [1, 2, 0] dL_law_15 rfl (by decide) rfl ?_
  refine l_iconst (v := nI 1) h dL_law_16 (by decide) ?_
  refine l_newJ (n := 1) h rfl (law_w 0 6 (by decide +kernel)) (by omega) (Nat.le_of_ble_eq_true rfl) (Nat.le_of_ble_eq_true rfl) dL_law_17 (fun o1 => ?_)
  refine l_astore_n (lv' := [(0, .ref b), (1, .ref d), (2, .ref m1), (3, .ref o1)]) h [1, 2, 3, 0] dL_law_19 rfl (by decide) rfl ?_
  refine l_iconst (v := nI 0) h dL_law_20 (by decide) ?_
  refine l_istore (lv' := [(0, .ref b), (1, .ref d), (2, .ref m1), (3, .ref o1), (4, .int (nI 0))]) h [1, 2, 3, 4, 0] dL_law_21 (by decide) rfl ?_
  refine l_w (w' := k_wL E d n b1 c1 h1 m1 o1 bf hf f (k_car bf 4) (k_car hf 16)) rfl ?_
  intro H locs ls hP hD hS hl
  obtain ⟨hP, hD⟩ := k_wL_cg E d n b1 c1 h1 m1 o1 bf hf f (k_car4 E d n b1 c1 h1 m1 o1 bf hf f) (k_car16 E d n b1 c1 h1 m1 o1 bf hf f) hP hD
  obtain ⟨F, g1, g2, g3, g4, g5⟩ : ∃ F : gE, F = k_wE E (k_wad d n b1 c1 h1 m1 o1 bf hf f) ∧ F.D = D ∧ F.cid = cid ∧ F.z = z ∧ F.sa = sa := ⟨_, rfl, e1, e2, e3, e4⟩
  have hw := k_wL_wd E d n b1 c1 h1 m1 o1 bf hf f
  rw [← g1] at hw hP hD
  have hP1 : va_P F.D vwCl (wd F st_0) H := by
    rw [g2, ← e1]
    exact hP.sub k_wis (k_fm_of _ _ _ hw)
  have hD1 : va_D (fun q => s.heap.size ≤ q) (wd F st_0) := hD.sub k_wis (by decide) hw
  have hin : ∀ q, gA F st_0 s q → s.heap.size ≤ q := fun q hq => by
    rcases hq with ⟨k, e, hq⟩ | hq
    · exact hD1.2 k (q, e) hq
    · exact hq
  have hO : gO p s m #[Value.ref b] c cL_law 7 RL wsL_law F st_0 := ⟨hx, hb, hml, hown, fun w hw => hts w (wsL_law_in w hw), hK F g2 g3, (hZ F g4 g5).1.narrow hin⟩
  have hbA : ¬ gA F st_0 s b := fun hq => absurd (hin b hq) (by omega)
  have hl1 : lv_has ls 7 [(0, .ref b), (1, .ref (aD F)), (2, .ref (aM F)), (3, .ref (aO F)), (4, .int (nI (4 * 0)))] := by
    rw [g1]
    exact hl
  refine law_loop (S0 := st_0) hlt hO hX hbl hbA hL ?_ 513 0 st_0 87 8212 rfl (by omega) (st_0_LI (by omega) (by omega)) H locs ls hP1 (hD1.weaken (fun _ _ _ h => Or.inr h)) ⟨hS.1, fun q q1 q2 => hS.2.1 q q1 (fun z => q2 (Or.inr z)), fun q hq => Or.inr (hS.2.2 q hq)⟩ hl1
  intro y cs sl lv hc hsl H locs ls hP hD hS hl
  refine va_forget (fun q hq => hin _ (hS.2.2 q hq)) ?_
  refine W.widen hc hsl ?_
  exact lw_ret hx hb hr hlocks dL_law_1716
