theorem law_w {w : Cond} (j i : Nat) (h : (lawC[j]?).bind (fun c => c[i]?) = some w) : w ∈ wsL_law := by
  cases hc : lawC[j]? with
  | none => rw [hc] at h; cases h
  | some c => rw [hc] at h; exact lawC_in c (List.mem_of_getElem? hc) w (List.mem_of_getElem? h)
theorem inlX5 : ∀ w ∈ u_ws RX5 TX5 3, w ∈ wsL_law := lawC_in wsX50 (List.mem_of_getElem? (i := 18) rfl)
/-! THE CLAIM OUT OF ONE WALK OF THE LAW'S BODY. Your part is whole_start (and what it stands on); all else here is the same for every law, but numbers. -/
def R_law : String := "CacheDirectoryLaw"
def lw_P (b : Addr) (xs : List Int32) (args : Array Value) (s : State) : Prop := args = #[.ref b] ∧ s.IntsAt b xs ∧ xs.length ≤ 260 ∧ (Jvm.Cond.and given_1 narrow_1).before args s = true
def lw_Q (_ : Array Value) (s : State) (o : Outcome) (t : State) : Prop := o = .returned (some (.int 1)) ∧ Framed s o t [] 879821 6462004
def lw_Z (below : List Frame) (a : Array Value) (s : State) : State → Prop := fun t => ∃ o, t.status = .running ∧ Ended t below o ∧ lw_Q a s o t
/-- the law's own end, with 1 on the stack, nothing written that was there before, its room as the claim has it -/
theorem lw_ret {p : Program} {l : Launch} {e : Env} {s : State} {m : MethodId} {below : List Frame} {meth : Method} {c : Code} {b : Nat} (hx : p.tables.exec = Jvm.exec) (hb : c.code = code) (hr : meth.sig.returnType = ret) (hlocks : meth.locks = false) {pc : Nat} {H : Heap} {ls : Array Slot} (hdg : decode code pc = .ok (.ireturn, 1)) : W p l e room_1 s m #[Value.ref b] below meth c H [] 879821 6462004 (lw_Z below #[Value.ref b] s) (F0 m pc ls [.int 1]) := by
  intro T hT X
  obtain ⟨fs, hret, hrun, hended, hW, hframe⟩ := X.leave (v := some (.int 1)) (hlocks := hlocks) (fun h => by rw [hr] at h; cases h)
  have hmeth' : T.vm.method? m = some meth := X.method'
  refine ⟨T.setFrames fs, ?_, .returned (some (.int 1)), hrun, hended, rfl, ⟨_, rfl⟩, hW, hframe⟩
  jvm_step X.here [X.here.top, hx, hb, hdg, hmeth', hr, ret, narrow_b1]
  (try refine ⟨rfl, ?_⟩); (try refine ⟨rfl, ?_⟩)
  first | (intro acts; rw [hret _ acts rfl rfl rfl]) | rw [hret _ _ rfl rfl rfl]
  exact Steps.refl _
/-- what holds at the law's entry: the machine, the code, the tables' words (any of lw_tbl by 'hts w (by decide +kernel)'), the script of L ints xs at the cell b, what the Statement gives of the start (any of its parts by flat_of_before) -/
def lw_At (p : Program) (s : State) (m : MethodId) (meth : Method) (c : Code) (b L : Nat) (xs : Nat → Int32) : Prop :=
  p.tables.exec = Jvm.exec ∧ c.code = code ∧ meth.sig.returnType = ret ∧ c.maxLocals = 14 ∧ s.vm.findClass R_law = some m.cls ∧ (∀ w ∈ lw_tbl, w.before #[Value.ref b] s = true) ∧ va_X b L xs s s.heap ∧ b < s.heap.size ∧ meth.locks = false ∧ (Jvm.Cond.and given_1 narrow_1).before #[Value.ref b] s = true
set_option maxRecDepth 100000 in
theorem whole_start {p : Program} {e : Env} {s : State} {m : MethodId} {below : List Frame} {meth : Method} {c : Code} (l : Launch) (hflags : l.flags = flags0) {b L : Nat} {xs : Nat → Int32} (hL : L ≤ 260) (C0 : lw_At p s m meth c b L xs) : W p l e room_1 s m #[Value.ref b] below meth c s.heap [] 0 0 (lw_Z below #[Value.ref b] s) (entryFrame m ([Value.ref b] : List Value).toArray 14) := by
  obtain ⟨hx, hb, hr, hml, hown, hts, hX, hbl, hlocks, hgv⟩ := C0
  have hlt : l.stackTraces = false := by
    unfold Launch.stackTraces
    rw [hflags]
    decide +kernel
  have hs := flat_of_before _ hgv
  obtain ⟨D, cid, hK⟩ := st_K hts
  obtain ⟨z, sa, hZ⟩ := st_Z hts (fun w hw => hs w (st_fl_in w hw))
  obtain ⟨E, e1, e2, e3, e4⟩ : ∃ E : gE, E.D = D ∧ E.cid = cid ∧ E.z = z ∧ E.sa = sa := ⟨(show gET from (D, (fun _ => 0), cid, z, sa)), rfl, rfl, rfl, rfl⟩
  obtain ⟨hZE, hN⟩ := hZ E e3 e4
  have h : lO p s m #[Value.ref b] c cL_law 14 RL wsL_law E (fun q => s.heap.size ≤ q) := ⟨hx, hb, hml, hown, fun w hw => hts w (wsL_law_in w hw), hK E e1 e2, hZE, hN, fun _ hq => hq⟩
  have hP0 : va_P E.D vwCl [] s.heap := fun k q hq => by simp at hq
  have hD0 : va_D (fun q => s.heap.size ≤ q) [] := ⟨fun i j p q hp => by simp at hp, fun k q hq => by simp at hq⟩
  rw [lg_entry_eq]
  refine (show GL p l e room_1 s m #[Value.ref b] below meth c (lw_Z below #[Value.ref b] s) E (fun q => s.heap.size ≤ q) 14 0 0 [] 0 [(0, .ref b)] [] from ?_) s.heap [] _ hP0 hD0 va_S.rf (lv_entry [.ref b] (Nat.le_of_ble_eq_true rfl))
  refine l_new (ci := 6) (fs := [.null, .null, .null]) (C := RX5) (T := TX5) (N := 3) h tyX5 rfl (fun w hw => inlX5 w hw) tyX5_ok (law_w 0 0 (by decide +kernel)) (law_w 0 1 (by decide +kernel)) (law_w 0 2 (by decide +kernel)) (fun j hj => by rcases (show j = 0 ∨ j = 1 ∨ j = 2 by omega) with rfl | rfl | rfl <;> rfl) (Nat.le_of_ble_eq_true rfl) (Nat.le_of_ble_eq_true rfl) dL_law_0 (fun d => ?_)
  refine l_dup h dL_law_3 rfl ?_
  refine l_callI (As := []) h 0 (k_X5 l E [] d) rfl gL_law_X5_init rfl rfl rfl rfl (law_w 0 2 (by decide +kernel)) (law_w 0 5 (by decide +kernel)) (law_w 0 6 (by decide +kernel)) rfl (by decide +kernel) ⟨Nat.le_of_ble_eq_true rfl, Nat.le_of_ble_eq_true rfl⟩ dL_law_4 ⟨Nat.le_of_ble_eq_true rfl, Nat.le_of_ble_eq_true rfl⟩ (Nat.le_of_ble_eq_true rfl) ?_
  rintro _ _ ⟨rfl, n, b1, c1, h1, bf, hf, rfl⟩
  rw [show ((none : Option Value).toList ++ ([Value.ref d] : List Value)) = [Value.ref d] from rfl]
  refine l_astore_n (lv' := [(0, .ref b), (1, .ref d)]) h [1, 0] dL_law_7 rfl (by decide) rfl ?_
  refine l_w (w' := (([] : va_W) ++ ((d, .inr (6, [.ref n, .ref c1, .ref h1])) :: (n, .inr (4, [.ref b1])) :: (b1, .inr (0, [.int (nI 0), .ref E.z, .int 0])) :: (c1, .inl (E.cid 2, 4, .inr (.inr (.inr (.inr (k_car bf 4)))))) :: (k_cbl E n bf 4 ++ ((h1, .inl (E.cid 3, 16, .inr (.inr (.inr (.inr (k_car hf 16)))))) :: k_hbl E n hf 16))))) rfl ?_
  refine l_iconst (v := nI 4) h dL_law_8 (by decide) ?_
  refine l_newI (n := 4) h rfl (law_w 0 3 (by decide +kernel)) (by omega) (Nat.le_of_ble_eq_true rfl) (Nat.le_of_ble_eq_true rfl) dL_law_9 (fun y0 => ?_)
  refine l_astore_n (lv' := [(0, .ref b), (1, .ref d), (2, .ref y0)]) h [1, 2, 0] dL_law_11 rfl (by decide) rfl ?_
  refine l_iconst (v := nI 4) h dL_law_12 (by decide) ?_
  refine l_newI (n := 4) h rfl (law_w 0 3 (by decide +kernel)) (by omega) (Nat.le_of_ble_eq_true rfl) (Nat.le_of_ble_eq_true rfl) dL_law_13 (fun y1 => ?_)
  refine l_dup h dL_law_15 rfl ?_
  refine l_iconst (v := nI 0) h dL_law_16 (by decide) ?_
  refine l_iconst (v := -1) h dL_law_17 (by decide) ?_
  refine l_iast (a := y1) (n := 4) (i := 0) (f := fun _ => 0) (v := -1) (X := (([] : va_W) ++ ((d, .inr (6, [.ref n, .ref c1, .ref h1])) :: (n, .inr (4, [.ref b1])) :: (b1, .inr (0, [.int (nI 0), .ref E.z, .int 0])) :: (c1, .inl (E.cid 2, 4, .inr (.inr (.inr (.inr (k_car bf 4)))))) :: (k_cbl E n bf 4 ++ ((h1, .inl (E.cid 3, 16, .inr (.inr (.inr (.inr (k_car hf 16)))))) :: k_hbl E n hf 16)))) ++ [(y0, .inl (E.cid 0, 4, .inl (fun _ => 0)))]) (L := [(y1, .inl (E.cid 0, 4, .inl (fun _ => 0)))]) (L' := [(y1, .inl (E.cid 0, 4, .inl (upd (fun _ => 0) 0 (-1))))]) h 0 rfl rfl (by omega) (by omega) dL_law_18 ?_
  refine l_dup h dL_law_19 rfl ?_
  refine l_iconst (v := nI 1) h dL_law_20 (by decide) ?_
  refine l_iconst (v := -1) h dL_law_21 (by decide) ?_
  refine l_iast (a := y1) (n := 4) (i := 1) (f := upd (fun _ => 0) 0 (-1)) (v := -1) (X := (([] : va_W) ++ ((d, .inr (6, [.ref n, .ref c1, .ref h1])) :: (n, .inr (4, [.ref b1])) :: (b1, .inr (0, [.int (nI 0), .ref E.z, .int 0])) :: (c1, .inl (E.cid 2, 4, .inr (.inr (.inr (.inr (k_car bf 4)))))) :: (k_cbl E n bf 4 ++ ((h1, .inl (E.cid 3, 16, .inr (.inr (.inr (.inr (k_car hf 16)))))) :: k_hbl E n hf 16)))) ++ [(y0, .inl (E.cid 0, 4, .inl (fun _ => 0)))]) (L := [(y1, .inl (E.cid 0, 4, .inl (upd (fun _ => 0) 0 (-1))))]) (L' := [(y1, .inl (E.cid 0, 4, .inl (upd (upd (fun _ => 0) 0 (-1)) 1 (-1))))]) h 0 rfl rfl (by omega) (by omega) dL_law_22 ?_
  refine l_dup h dL_law_23 rfl ?_
  refine l_iconst (v := nI 2) h dL_law_24 (by decide) ?_
  refine l_iconst (v := -1) h dL_law_25 (by decide) ?_
  refine l_iast (a := y1) (n := 4) (i := 2) (f := upd (upd (fun _ => 0) 0 (-1)) 1 (-1)) (v := -1) (X := (([] : va_W) ++ ((d, .inr (6, [.ref n, .ref c1, .ref h1])) :: (n, .inr (4, [.ref b1])) :: (b1, .inr (0, [.int (nI 0), .ref E.z, .int 0])) :: (c1, .inl (E.cid 2, 4, .inr (.inr (.inr (.inr (k_car bf 4)))))) :: (k_cbl E n bf 4 ++ ((h1, .inl (E.cid 3, 16, .inr (.inr (.inr (.inr (k_car hf 16)))))) :: k_hbl E n hf 16)))) ++ [(y0, .inl (E.cid 0, 4, .inl (fun _ => 0)))]) (L := [(y1, .inl (E.cid 0, 4, .inl (upd (upd (fun _ => 0) 0 (-1)) 1 (-1))))]) (L' := [(y1, .inl (E.cid 0, 4, .inl (upd (upd (upd (fun _ => 0) 0 (-1)) 1 (-1)) 2 (-1))))]) h 0 rfl rfl (by omega) (by omega) dL_law_26 ?_
  refine l_dup h dL_law_27 rfl ?_
  refine l_iconst (v := nI 3) h dL_law_28 (by decide) ?_
  refine l_iconst (v := -1) h dL_law_29 (by decide) ?_
  refine l_iast (a := y1) (n := 4) (i := 3) (f := upd (upd (upd (fun _ => 0) 0 (-1)) 1 (-1)) 2 (-1)) (v := -1) (X := (([] : va_W) ++ ((d, .inr (6, [.ref n, .ref c1, .ref h1])) :: (n, .inr (4, [.ref b1])) :: (b1, .inr (0, [.int (nI 0), .ref E.z, .int 0])) :: (c1, .inl (E.cid 2, 4, .inr (.inr (.inr (.inr (k_car bf 4)))))) :: (k_cbl E n bf 4 ++ ((h1, .inl (E.cid 3, 16, .inr (.inr (.inr (.inr (k_car hf 16)))))) :: k_hbl E n hf 16)))) ++ [(y0, .inl (E.cid 0, 4, .inl (fun _ => 0)))]) (L := [(y1, .inl (E.cid 0, 4, .inl (upd (upd (upd (fun _ => 0) 0 (-1)) 1 (-1)) 2 (-1))))]) (L' := [(y1, .inl (E.cid 0, 4, .inl (upd (upd (upd (upd (fun _ => 0) 0 (-1)) 1 (-1)) 2 (-1)) 3 (-1))))]) h 0 rfl rfl (by omega) (by omega) dL_law_30 ?_
  refine l_astore_n (lv' := [(0, .ref b), (1, .ref d), (2, .ref y0), (3, .ref y1)]) h [1, 2, 3, 0] dL_law_31 rfl (by decide) rfl ?_
  refine l_iconst (v := nI 4) h dL_law_32 (by decide) ?_
  refine l_newI (n := 4) h rfl (law_w 0 3 (by decide +kernel)) (by omega) (Nat.le_of_ble_eq_true rfl) (Nat.le_of_ble_eq_true rfl) dL_law_33 (fun y2 => ?_)
  refine l_astore (lv' := [(0, .ref b), (1, .ref d), (2, .ref y0), (3, .ref y1), (4, .ref y2)]) h [1, 2, 3, 4, 0] dL_law_35 (by decide) rfl ?_
  refine l_iconst (v := nI 4) h dL_law_37 (by decide) ?_
  refine l_newZ (n := 4) h rfl (law_w 0 4 (by decide +kernel)) (by omega) (Nat.le_of_ble_eq_true rfl) (Nat.le_of_ble_eq_true rfl) dL_law_38 (fun y3 => ?_)
  refine l_astore (lv' := [(0, .ref b), (1, .ref d), (2, .ref y0), (3, .ref y1), (4, .ref y2), (5, .ref y3)]) h [1, 2, 3, 4, 5, 0] dL_law_40 (by decide) rfl ?_
  refine l_iconst (v := nI 0) h dL_law_42 (by decide) ?_
  refine l_istore (lv' := [(0, .ref b), (1, .ref d), (2, .ref y0), (3, .ref y1), (4, .ref y2), (5, .ref y3), (6, .int (nI 0))]) h [1, 2, 3, 4, 5, 6, 0] dL_law_43 (by decide) rfl ?_
  refine l_w (w' := k_wL E d n b1 c1 h1 y0 y1 y2 y3 bf hf (k_car bf 4) (k_car hf 16)) rfl ?_
  intro H locs ls hP hD hS hl
  obtain ⟨hP, hD⟩ := k_wL_cg E d n b1 c1 h1 y0 y1 y2 y3 bf hf (k_car4 E d n b1 c1 h1 y0 y1 y2 y3 bf hf) (k_car16 E d n b1 c1 h1 y0 y1 y2 y3 bf hf) hP hD
  obtain ⟨F, g1, g2, g3, g4, g5⟩ : ∃ F : gE, F = k_wE E (k_wad d n b1 c1 h1 y0 y1 y2 y3 bf hf) ∧ F.D = D ∧ F.cid = cid ∧ F.z = z ∧ F.sa = sa := ⟨_, rfl, e1, e2, e3, e4⟩
  have hw := k_wL_wd E d n b1 c1 h1 y0 y1 y2 y3 bf hf
  rw [← g1] at hw hP hD
  have hP1 : va_P F.D vwCl (wd F st_0) H := by
    rw [g2, ← e1]
    exact hP.sub k_wis (k_fm_of _ _ _ hw)
  have hD1 : va_D (fun q => s.heap.size ≤ q) (wd F st_0) := hD.sub k_wis (by decide) hw
  have hin : ∀ q, gA F st_0 s q → s.heap.size ≤ q := fun q hq => by
    rcases hq with ⟨k, e, hq⟩ | hq
    · exact hD1.2 k (q, e) hq
    · exact hq
  have hO : gO p s m #[Value.ref b] c cL_law 14 RL wsL_law F st_0 := ⟨hx, hb, hml, hown, fun w hw => hts w (wsL_law_in w hw), hK F g2 g3, (hZ F g4 g5).1.narrow hin⟩
  have hbA : ¬ gA F st_0 s b := fun hq => absurd (hin b hq) (by omega)
  have hl1 : lv_has ls 14 [(0, .ref b), (1, .ref (aD F)), (2, .ref (aY F 0)), (3, .ref (aY F 1)), (4, .ref (aY F 2)), (5, .ref (aY F 3)), (6, .int (nI 0))] := by
    rw [g1]
    exact hl
  have hend : ∀ (y : St) (cs sl : Nat) (lv : List (Nat × Value)), cs ≤ 879821 → sl ≤ 6462004 → G p l e RM0 s m #[.ref b] below meth c (lw_Z below #[Value.ref b] s) F st_0 14 cs sl y 519 lv [.int (nI 1)] := by
    intro y cs sl lv hc hsl H locs ls hP hD hS hl
    refine va_forget (fun q hq => hin _ (hS.2.2 q hq)) ?_
    refine W.widen hc hsl ?_
    exact lw_ret hx hb hr hlocks dL_law_519
  refine law_rooms (S0 := st_0) hlt hO hX hbl hbA (by omega) (fun y w B h1 h2 => ?_) (by omega) (by omega) 4 0 st_0 vw_0 vw_0.x rfl st_0_LS st_0_LW (fun k _ hk => st_0_use hk) H locs ls hP1 (hD1.weaken (fun _ _ _ h => Or.inr h)) ⟨hS.1, fun q q1 q2 => hS.2.1 q q1 (fun z => q2 (Or.inr z)), fun q hq => Or.inr (hS.2.2 q hq)⟩ hl1
  refine g_iconst (v := nI 0) hO dL_law_88 (by decide) ?_
  refine g_istore (lv' := [(0, .ref b), (1, .ref (aD F)), (2, .ref (aY F 0)), (3, .ref (aY F 1)), (4, .ref (aY F 2)), (5, .ref (aY F 3)), (6, .int (nI 0))]) hO [1, 2, 3, 4, 5, 6, 0] dL_law_89 (by decide) rfl ?_
  exact law_loop (S0 := st_0) hlt hO hX hbl hbA (by omega) hend 56 0 y w B _ _ _ rfl h1 h2 (Nat.le_of_ble_eq_true rfl) (Nat.le_of_ble_eq_true rfl)
