/-! ===== the law's helpers: rules, contracts ===== -/
section LAWR
variable {p : Program} {l : Launch} {e : Env} {R : Room} {s : State} {m : MethodId} {args : Array Value} {below : List Frame} {meth : Method} {c : Code} {Q : State → Prop} {E : gE} {S0 x : St} {nL cs sl : Nat} {cc : ByteArray} {own : String} {Ts : List Cond} {pc : Nat} {lv : List (Nat × Value)} {st : List Value} {b L : Nat} {xs : Nat → Int32}
theorem g_sld (h : gO p s m args c cc nL own Ts E S0) (hX : va_X b L xs s s.heap) (hbl : b < s.heap.size) (hbA : ¬ gA E S0 s b) {j : Nat} (hj : j < L) (hL : L < 2 ^ 31) (hd : decode cc pc = .ok (.iaload, 1)) (kk : G p l e R s m args below meth c Q E S0 nL cs sl x (pc + 1) lv (.int (xs j) :: st)) : G p l e R s m args below meth c Q E S0 nL cs sl x pc lv (.int (nI j) :: .ref b :: st) := fun H locs ls hP hD hS hl => by
  refine va_sld h.1 h.2.1 hX hbl hbA hS (vp_in_nI hj hL) hd ?_
  rw [nI_clamp (by omega)]
  exact kk H locs ls hP hD hS hl
theorem g_slen (h : gO p s m args c cc nL own Ts E S0) (hX : va_X b L xs s s.heap) (hbl : b < s.heap.size) (hbA : ¬ gA E S0 s b) (hd : decode cc pc = .ok (.arraylength, 1)) (kk : G p l e R s m args below meth c Q E S0 nL cs sl x (pc + 1) lv (.int (nI L) :: st)) : G p l e R s m args below meth c Q E S0 nL cs sl x pc lv (.ref b :: st) := fun H locs ls hP hD hS hl => by
  refine va_slen h.1 h.2.1 hX hbl hbA hS hd ?_
  exact kk H locs ls hP hD hS hl
theorem g_irem (h : gO p s m args c cc nL own Ts E S0) {a d : Nat} (hd : decode cc pc = .ok (.irem, 1)) (ha : a < 2 ^ 31) (h0 : 0 < d) (hdd : d < 2 ^ 31) (kk : G p l e R s m args below meth c Q E S0 nL cs sl x (pc + 1) lv (.int (nI (a % d)) :: st)) : G p l e R s m args below meth c Q E S0 nL cs sl x pc lv (.int (nI d) :: .int (nI a) :: st) := fun H locs ls hP hD hS hl =>
  lv_irem h.1 h.2.1 hd (fun q => by have := (nI_eq (a := d) (b := 0) (by omega) (by omega)).mp q; omega) (by rw [pk_rem ha h0 hdd]; exact kk H locs ls hP hD hS hl)
theorem g_idiv (h : gO p s m args c cc nL own Ts E S0) {a d : Nat} (hd : decode cc pc = .ok (.idiv, 1)) (ha : a < 2 ^ 31) (h0 : 0 < d) (hdd : d < 2 ^ 31) (kk : G p l e R s m args below meth c Q E S0 nL cs sl x (pc + 1) lv (.int (nI (a / d)) :: st)) : G p l e R s m args below meth c Q E S0 nL cs sl x pc lv (.int (nI d) :: .int (nI a) :: st) := fun H locs ls hP hD hS hl =>
  lv_idiv h.1 h.2.1 hd (fun q => by have := (nI_eq (a := d) (b := 0) (by omega) (by omega)).mp q; omega) (by rw [pk_div ha h0 hdd]; exact kk H locs ls hP hD hS hl)
/-- a static call of a method with handlers -/
theorem g_callSW (h : gO p s m args c cc nL own Ts E S0) {ym : MethodName} {bytes : ByteArray} {maxL index mc ms : Nat} {ret : Option FieldType} {hh : List (Nat × Nat × Nat × Nat)} {ws ws' : List Cond} {rm : Room} {As rest : List Value} {post : Option Value → St → Prop} (n : Nat) (hM : Ct l ym ws rm E As x post mc ms) (hst : st = As.reverse ++ rest) (hG : GoodIn Ts (va_wsS own index ym ws)) (hw : ws = Cond.codeWith ym bytes maxL ret hh :: ws') (hrc : rm.cells = mc) (hrs : rm.slots = ms) (hn : As.length = n)
    (hdd : ym.cls ≠ "java/lang/invoke/MethodHandle" ∧ ym.cls ≠ "java/lang/invoke/VarHandle" ∧ (parseMethodDescriptor ym.desc).map (fun d => d.parameters.length) = some n) (hR : rm.frames + 1 ≤ R.frames ∧ 8 + (maxL + 11) + rm.locals ≤ R.locals)
    (hd : decode cc pc = .ok (.invokestatic index, 3)) (hf : cs + mc ≤ R.cells ∧ sl + ms ≤ R.slots) (hcat : (rest.map fun v => v.category).sum ≤ 8)
    (kk : ∀ (v : Option Value) (y : St), post v y → G p l e R s m args below meth c Q E S0 nL (cs + mc) (sl + ms) y (pc + 3) lv (v.toList ++ rest)) : G p l e R s m args below meth c Q E S0 nL cs sl x pc lv st := fun H locs ls hP hD hS hl =>
  g_run (vx_runSW (As := As) (rest := rest) ⟨h.1, h.2.1, h.2.2.1, h.2.2.2.1, h.2.2.2.2.1⟩ (hM H.size) (vx_cwSW n h.2.2.2.2.1 hG hw hrc hrs hdd hR) ⟨gPc_blind, fun U hU hW => gPre h hP hD hS U hU hW⟩ rfl hn hl.1 hst (lv_room hcat) hd hf) hD hS hl kk
/-- a contract's start that knows the script -/
def gPcS (E : gE) (av : List Value) (x : St) (b L : Nat) (xs : Nat → Int32) (sz : Nat) : Array Value → State → Prop := fun a U => gPc E av x sz a U ∧ va_X b L xs U U.heap ∧ b < U.heap.size ∧ ¬ va_A (wd E x) sz b
theorem gPcS_blind {av : List Value} {sz : Nat} : FrameBlind (gPcS E av x b L xs sz) := by
  intro a U g mk h
  exact ⟨gPc_blind a U g mk h.1, va_X.moved (u := U) (U := U.calling g mk a) (Vm.Alike.refl U.vm) h.2.1, h.2.2⟩
def CtS (l : Launch) (y : MethodName) (ws : List Cond) (rm : Room) (E : gE) (av : List Value) (x : St) (b L : Nat) (xs : Nat → Int32) (post : Option Value → St → Prop) (mc ms : Nat) : Prop := ∀ sz : Nat, Met l y ws rm (gPcS E av x b L xs sz) (gQc E x sz post) mc ms (va_A (wd E x) sz)
theorem CtS.of {y : MethodName} {ws ws' : List Cond} {rm : Room} {av : List Value} {post : Option Value → St → Prop} {mc ms : Nat} {ret : Option FieldType} (hy : plainName y.cls = true) (hw : ws = Cond.code y cc nL ret :: ws') (hlen : (lg_sl av).length ≤ nL)
    (body : ∀ (p : Program) (e : Env) (s : State) (m : MethodId) (args : Array Value) (below : List Frame) (meth : Method) (c : Code), gO p s m args c cc nL y.cls ws E x → va_X b L xs s s.heap → b < s.heap.size → ¬ gA E x s b → meth.sig.returnType = ret → meth.locks = false → meth.name = y.name → G p l e rm s m args below meth c (gQ below E x s post args mc ms) E x nL 0 0 x 0 (lv_args 0 av) []) : CtS l y ws rm E av x b L xs post mc ms := by
  intro sz
  refine Met.ofW hy hw ?_
  intro p e s m args below meth c s₁ B hml hv
  obtain ⟨⟨rfl, hsz, hP, hK, hD, hZ⟩, hX, hbl, hbA⟩ := hv
  subst hsz
  have hown : s.vm.findClass y.cls = some m.cls := findClass_of_methodNamed B.named
  rw [lg_entry_eq]
  exact body p e s m _ below meth c ⟨B.exec, B.bytes, hml, hown, atoms_spec B.pre, hK, hZ⟩ hX hbl hbA B.returns B.notSynchronized (name_of_methodNamed B.named B.method).1 s.heap [] _ hP hD.self va_S.rf (lv_entry av hlen)
/-- a static call of a method that reads the script -/
theorem g_callSS (h : gO p s m args c cc nL own Ts E S0) (hX : va_X b L xs s s.heap) (hbl : b < s.heap.size) (hbA : ¬ gA E S0 s b) {ym : MethodName} {bytes : ByteArray} {maxL index mc ms : Nat} {ret : Option FieldType} {ws ws' : List Cond} {rm : Room} {As rest : List Value} {post : Option Value → St → Prop} (n : Nat) (hM : CtS l ym ws rm E As x b L xs post mc ms) (hst : st = As.reverse ++ rest) (hG : GoodIn Ts (va_wsS own index ym ws)) (hw : ws = Cond.code ym bytes maxL ret :: ws') (hrc : rm.cells = mc) (hrs : rm.slots = ms) (hn : As.length = n)
    (hdd : ym.cls ≠ "java/lang/invoke/MethodHandle" ∧ ym.cls ≠ "java/lang/invoke/VarHandle" ∧ (parseMethodDescriptor ym.desc).map (fun d => d.parameters.length) = some n) (hR : rm.frames + 1 ≤ R.frames ∧ 8 + (maxL + 11) + rm.locals ≤ R.locals)
    (hd : decode cc pc = .ok (.invokestatic index, 3)) (hf : cs + mc ≤ R.cells ∧ sl + ms ≤ R.slots) (hcat : (rest.map fun v => v.category).sum ≤ 8)
    (kk : ∀ (v : Option Value) (y : St), post v y → G p l e R s m args below meth c Q E S0 nL (cs + mc) (sl + ms) y (pc + 3) lv (v.toList ++ rest)) : G p l e R s m args below meth c Q E S0 nL cs sl x pc lv st := fun H locs ls hP hD hS hl =>
  g_run (va_runS (As := As) (rest := rest) ⟨h.1, h.2.1, h.2.2.1, h.2.2.2.1, h.2.2.2.2.1⟩ (hM H.size) (va_cwS n h.2.2.2.2.1 hG hw hrc hrs hdd hR) ⟨gPcS_blind, fun U hU hW => ⟨gPre h hP hD hS U hU hW, by
    rw [hU]
    exact (hX.kept (hS.2.1 b hbl hbA)).moved hW.alike, by
    rw [hU]
    exact Nat.lt_of_lt_of_le hbl hS.1, fun q => hbA (gA_in hD hS b q)⟩⟩ rfl hn hl.1 hst (lv_room hcat) hd hf) hD hS hl kk
end LAWR
set_option maxRecDepth 100000 in
set_option maxHeartbeats 400000 in
theorem c_below (l : Launch) (E : gE) (x : St) (a : Int32) (n : Nat) (h0 : 0 < n) (hn : n < 2 ^ 31) : Ct l yL_below wsL_below { frames := 1, cells := 0, slots := 0, locals := 40 } E [.int a, .int (nI n)] x (fun u y => (∃ k : Nat, k < n ∧ u = some (.int (nI k))) ∧ y = x) 0 0 := by
  refine Ct.of (cc := cL_below) (nL := 2) (ret := (some .int)) (by decide) rfl (Nat.le_of_ble_eq_true rfl) ?_
  intro p e s m args below meth c h hr hk hname
  refine g_lvs (lv' := [(0, _), (1, _)]) rfl ?_
  refine g_iload_n h 0 dL_below_0 rfl rfl ?_
  refine g_ldc h dL_below_1 (v := 2147483647) (by decide +kernel) ?_
  refine g_iand h dL_below_3 ?_
  obtain ⟨k, hk2, e1⟩ := pk_andE a (m := 2147483647) 31 (by decide +kernel)
  rw [e1]
  refine g_iload_n h 1 dL_below_4 rfl rfl ?_
  refine g_irem h dL_below_5 hk2 h0 hn ?_
  exact g_iret h hr hk dL_below_6 (by omega) (by omega) ⟨⟨k % n, Nat.mod_lt k h0, rfl⟩, rfl⟩
set_option maxRecDepth 100000 in
set_option maxHeartbeats 400000 in
theorem c_cell (l : Launch) (E : gE) (x : St) (b L : Nat) (xs : Nat → Int32) (hL : L < 2 ^ 31) (k : Nat) (hk0 : k < 2 ^ 31) : CtS l yL_cell wsL_cell { frames := 1, cells := 0, slots := 0, locals := 40 } E [.ref b, .int (nI k)] x b L xs (fun u y => (∃ a : Int32, u = some (.int a)) ∧ y = x) 0 0 := by
  refine CtS.of (cc := cL_cell) (nL := 2) (ret := (some .int)) (by decide) rfl (Nat.le_of_ble_eq_true rfl) ?_
  intro p e s m args below meth c h hX hbl hbA hr hk hname
  refine g_lvs (lv' := [(0, _), (1, _)]) rfl ?_
  refine g_iload_n h 1 dL_cell_0 rfl rfl ?_
  refine g_aload_n h 0 dL_cell_1 rfl rfl ?_
  refine g_slen h hX hbl hbA dL_cell_2 ?_
  refine g_icmp_geN h 12 dL_cell_3 (by decide) (by omega) (by omega) (fun _ => ?_) (fun c_3 => ?_)
  · refine g_ldc h dL_cell_12 (v := 790386105) (by decide +kernel) ?_
    refine g_iload_n h 1 dL_cell_14 rfl rfl ?_
    refine g_iconst (v := nI 3) h dL_cell_15 (by decide) ?_
    refine g_iaddN h dL_cell_16 ?_
    refine g_imul h dL_cell_17 ?_
    exact g_iret h hr hk dL_cell_18 (by omega) (by omega) ⟨⟨_, rfl⟩, rfl⟩
  · refine g_aload_n h 0 dL_cell_6 rfl rfl ?_
    refine g_iload_n h 1 dL_cell_7 rfl rfl ?_
    refine g_sld h hX hbl hbA (by omega) hL dL_cell_8 ?_
    refine g_goto h 18 dL_cell_9 (by decide) ?_
    exact g_iret h hr hk dL_cell_18 (by omega) (by omega) ⟨⟨_, rfl⟩, rfl⟩
set_option maxRecDepth 100000 in
set_option maxHeartbeats 400000 in
theorem w_read (l : Launch) (E : gE) (x : St) (hlt : l.stackTraces = false) (v : Vw) (hV : VW x v [] []) (i : Nat) (j : Nat) (hi : i < 4) (hj : j < 16) (hc : v.x.FC i 7 = nI (nat (v.x.FC i 7)) ∧ nat (v.x.FC i 7) ≤ 4) (hu : v.x.AC i 3 0 = nI (nat (v.x.AC i 3 0)) ∧ nat (v.x.AC i 3 0) < 16) (ha1 : v.x.FR i 0 = -1) (ha2 : v.x.AC i 2 j = -1) (ha3 : nI (r_X0_needsWayFor v i j) = 0 ∨ nI (r_X0_lacksVictimRoomFor v i (nat (v.x.AC i 3 0))) = 0) (hn : (v.q 16).length ≤ 62) : Ct l yL_read wsL_read { frames := 14, cells := 4, slots := 206, locals := 500 } E [.ref (aD E), .int (nI i), .int (nI j)] x (fun u y => u = some (.int (r_X5_read v i j)) ∧ VW y (s_X5_read v i j) [] []) 4 206 := by
  refine CtW.of (cc := cL_read) (nL := 4) (ret := (some .int)) (hh := [(0, 6, 7, 15)]) (by decide) rfl (Nat.le_of_ble_eq_true rfl) ?_
  intro p e s m args below meth c h hr hk htab
  refine g_lvs (lv' := [(0, _), (1, _), (2, _)]) rfl ?_
  refine g_aload_n h 0 dL_read_0 rfl rfl ?_
  refine g_iload_n h 1 dL_read_1 rfl rfl ?_
  refine g_iload_n h 2 dL_read_2 rfl rfl ?_
  refine g_callV (As := [.int (nI i), .int (nI j)]) (C := RX5) h 2 (c_X5_read l E _ v [] hV i j hi hj hc hu ha1 ha2 ha3 hn) rfl gL_read_X5_read rfl rfl rfl rfl (by decide +kernel) ⟨Nat.le_of_ble_eq_true rfl, Nat.le_of_ble_eq_true rfl⟩ (wat_D E _) rfl rfl dL_read_3 ⟨by dsimp only; omega, by dsimp only; omega⟩ (Nat.le_of_ble_eq_true rfl) ?_
  rintro _ y ⟨rfl, hV⟩
  dsimp only [Option.toList, List.cons_append, List.nil_append]
  exact g_iret h hr hk dL_read_6 (by omega) (by omega) ⟨rfl, hV⟩
set_option maxRecDepth 100000 in
set_option maxHeartbeats 400000 in
theorem w_write (l : Launch) (E : gE) (x : St) (hlt : l.stackTraces = false) (v : Vw) (hV : VW x v [] []) (i : Nat) (j : Nat) (w : Nat) (hi : i < 4) (hj : j < 16) (hw : w ≤ 9999) (hc : v.x.FC i 7 = nI (nat (v.x.FC i 7)) ∧ nat (v.x.FC i 7) ≤ 4) (hu : v.x.AC i 3 0 = nI (nat (v.x.AC i 3 0)) ∧ nat (v.x.AC i 3 0) < 16) (ha1 : v.x.FR i 0 = -1) (ha2 : v.x.AC i 2 j = -1) (ha3 : nI (r_X0_needsWayFor v i j) = 0 ∨ nI (r_X0_lacksVictimRoomFor v i (nat (v.x.AC i 3 0))) = 0) (hn : (v.q 16).length ≤ 62) : Ct l yL_write wsL_write { frames := 14, cells := 4, slots := 206, locals := 500 } E [.ref (aD E), .int (nI i), .int (nI j), .int (nI w)] x (fun u y => u = some (.int (nI (r_X5_write v i j w))) ∧ VW y (s_X5_write v i j w) [] []) 4 206 := by
  refine CtW.of (cc := cL_write) (nL := 5) (ret := (some .int)) (hh := [(0, 15, 16, 15)]) (by decide) rfl (Nat.le_of_ble_eq_true rfl) ?_
  intro p e s m args below meth c h hr hk htab
  refine g_lvs (lv' := [(0, _), (1, _), (2, _), (3, _)]) rfl ?_
  refine g_aload_n h 0 dL_write_0 rfl rfl ?_
  refine g_iload_n h 1 dL_write_1 rfl rfl ?_
  refine g_iload_n h 2 dL_write_2 rfl rfl ?_
  refine g_iload_n h 3 dL_write_3 rfl rfl ?_
  have h01 : r_X5_write v i j w = 1 ∨ r_X5_write v i j w = 0 := by
    unfold r_X5_write
    split
    · exact Or.inl rfl
    · exact Or.inr rfl
  refine g_callV (As := [.int (nI i), .int (nI j), .int (nI w)]) (C := RX5) h 3 (c_X5_write l E _ v [] hV i j w hi hj hw hc hu ha1 ha2 ha3 hn) rfl gL_write_X5_write rfl rfl rfl rfl (by decide +kernel) ⟨Nat.le_of_ble_eq_true rfl, Nat.le_of_ble_eq_true rfl⟩ (wat_D E _) rfl rfl dL_write_4 ⟨by dsimp only; omega, by dsimp only; omega⟩ (Nat.le_of_ble_eq_true rfl) ?_
  rintro _ y ⟨rfl, hV⟩
  dsimp only [Option.toList, List.cons_append, List.nil_append]
  refine g_if_eq h 14 dL_write_7 (by decide) (fun c_7 => ?_) (fun c_7 => ?_)
  · refine g_iconst (v := nI 0) h dL_write_14 (by decide) ?_
    refine g_iret h hr hk dL_write_15 (by omega) (by omega) ⟨?_, hV⟩
    rcases h01 with z | z
    · rw [z] at c_7
      exact absurd c_7 (by decide)
    · rw [z]
  · refine g_iconst (v := nI 1) h dL_write_10 (by decide) ?_
    refine g_goto h 15 dL_write_11 (by decide) ?_
    refine g_iret h hr hk dL_write_15 (by omega) (by omega) ⟨?_, hV⟩
    rcases h01 with z | z
    · rw [z]
    · rw [z] at c_7
      exact absurd rfl c_7
set_option maxRecDepth 100000 in
set_option maxHeartbeats 400000 in
theorem w_evict (l : Launch) (E : gE) (x : St) (hlt : l.stackTraces = false) (v : Vw) (hV : VW x v [] []) (i : Nat) (j : Nat) (hi : i < 4) (hj : j < 16) (hc : v.x.FC i 7 = nI (nat (v.x.FC i 7)) ∧ nat (v.x.FC i 7) ≤ 4) (hh : ¬ nI (r_X0_holds v i j) = 0) (he1 : ¬ v.x.FR i 0 = nI j) (he2 : nI (r_X0_lacksVictimRoomFor v i j) = 0) (hn : (v.q 16).length ≤ 62) : Ct l yL_evict wsL_evict { frames := 14, cells := 2, slots := 103, locals := 500 } E [.ref (aD E), .int (nI i), .int (nI j)] x (fun u y => u = some (.int (r_X5_evict v i j)) ∧ VW y (s_X5_evict v i j) [] []) 2 103 := by
  refine CtW.of (cc := cL_evict) (nL := 4) (ret := (some .int)) (hh := [(0, 6, 7, 24), (0, 6, 10, 15)]) (by decide) rfl (Nat.le_of_ble_eq_true rfl) ?_
  intro p e s m args below meth c h hr hk htab
  refine g_lvs (lv' := [(0, _), (1, _), (2, _)]) rfl ?_
  refine g_aload_n h 0 dL_evict_0 rfl rfl ?_
  refine g_iload_n h 1 dL_evict_1 rfl rfl ?_
  refine g_iload_n h 2 dL_evict_2 rfl rfl ?_
  refine g_callV (As := [.int (nI i), .int (nI j)]) (C := RX5) h 2 (c_X5_evict l E _ v [] hV i j hi hj hc hh he1 he2 hn) rfl gL_evict_X5_evict rfl rfl rfl rfl (by decide +kernel) ⟨Nat.le_of_ble_eq_true rfl, Nat.le_of_ble_eq_true rfl⟩ (wat_D E _) rfl rfl dL_evict_3 ⟨by dsimp only; omega, by dsimp only; omega⟩ (Nat.le_of_ble_eq_true rfl) ?_
  rintro _ y ⟨rfl, hV⟩
  dsimp only [Option.toList, List.cons_append, List.nil_append]
  exact g_iret h hr hk dL_evict_6 (by omega) (by omega) ⟨rfl, hV⟩
set_option maxRecDepth 100000 in
set_option maxHeartbeats 400000 in
theorem w_read_s (l : Launch) (E : gE) (x : St) (hlt : l.stackTraces = false) (v : Vw) (hV : VW x v [] []) (i : Nat) (j : Nat) (hi : i < 4) (hj : j < 16) (hu : v.x.AC i 3 0 = nI (nat (v.x.AC i 3 0)) ∧ nat (v.x.AC i 3 0) < 16) (hac : ¬ (v.x.FR i 0 = -1 ∧ v.x.AC i 2 j = -1 ∧ (nI (r_X0_needsWayFor v i j) = 0 ∨ nI (r_X0_lacksVictimRoomFor v i (nat (v.x.AC i 3 0))) = 0))) : Ct l yL_read wsL_read { frames := 14, cells := 1, slots := 6, locals := 500 } E [.ref (aD E), .int (nI i), .int (nI j)] x (fun u y => u = some (.int (-2)) ∧ y = x) 1 6 := by
  refine CtW.of (cc := cL_read) (nL := 4) (ret := (some .int)) (hh := [(0, 6, 7, 15)]) (by decide) rfl (Nat.le_of_ble_eq_true rfl) ?_
  intro p e s m args below meth c h hr hk htab
  refine g_lvs (lv' := [(0, _), (1, _), (2, _)]) rfl ?_
  refine g_aload_n h 0 dL_read_0 rfl rfl ?_
  refine g_iload_n h 1 dL_read_1 rfl rfl ?_
  refine g_iload_n h 2 dL_read_2 rfl rfl ?_
  refine g_callVC (As := [.int (nI i), .int (nI j)]) (C := RX5) (hh := [(0, 6, 7, 15)]) h htab 2 [] (⟨0, 6, 7, 15⟩ : ExceptionTableEntry) [] (t_X5_read_s l E _ hlt v [] hV i j hi hj hu hac) rfl gL_read_X5_read rfl rfl rfl rfl (by decide +kernel) ⟨Nat.le_of_ble_eq_true rfl, Nat.le_of_ble_eq_true rfl⟩ (wat_D E _) rfl rfl dL_read_3 ⟨by dsimp only; omega, by dsimp only; omega⟩ (Nat.le_of_ble_eq_true rfl) rfl (fun y hy => by simp at hy) (by decide) (by decide) (by decide +kernel) (by decide) (fun q => ?_)
  refine g_astore_n (lv' := [(0, _), (1, _), (2, _), (3, _)]) h [1, 2, 3, 0] dL_read_7 rfl (by decide) rfl ?_
  refine g_bipush (v := -2) h dL_read_8 (by decide) ?_
  exact g_iret h hr hk dL_read_10 (by omega) (by omega) ⟨rfl, rfl⟩
set_option maxRecDepth 100000 in
set_option maxHeartbeats 400000 in
theorem w_write_s (l : Launch) (E : gE) (x : St) (hlt : l.stackTraces = false) (v : Vw) (hV : VW x v [] []) (i : Nat) (j : Nat) (w : Nat) (hi : i < 4) (hj : j < 16) (hw : w ≤ 9999) (hu : v.x.AC i 3 0 = nI (nat (v.x.AC i 3 0)) ∧ nat (v.x.AC i 3 0) < 16) (hac : ¬ (v.x.FR i 0 = -1 ∧ v.x.AC i 2 j = -1 ∧ (nI (r_X0_needsWayFor v i j) = 0 ∨ nI (r_X0_lacksVictimRoomFor v i (nat (v.x.AC i 3 0))) = 0))) : Ct l yL_write wsL_write { frames := 14, cells := 1, slots := 6, locals := 500 } E [.ref (aD E), .int (nI i), .int (nI j), .int (nI w)] x (fun u y => u = some (.int (-2)) ∧ y = x) 1 6 := by
  refine CtW.of (cc := cL_write) (nL := 5) (ret := (some .int)) (hh := [(0, 15, 16, 15)]) (by decide) rfl (Nat.le_of_ble_eq_true rfl) ?_
  intro p e s m args below meth c h hr hk htab
  refine g_lvs (lv' := [(0, _), (1, _), (2, _), (3, _)]) rfl ?_
  refine g_aload_n h 0 dL_write_0 rfl rfl ?_
  refine g_iload_n h 1 dL_write_1 rfl rfl ?_
  refine g_iload_n h 2 dL_write_2 rfl rfl ?_
  refine g_iload_n h 3 dL_write_3 rfl rfl ?_
  refine g_callVC (As := [.int (nI i), .int (nI j), .int (nI w)]) (C := RX5) (hh := [(0, 15, 16, 15)]) h htab 3 [] (⟨0, 15, 16, 15⟩ : ExceptionTableEntry) [] (t_X5_write_s l E _ hlt v [] hV i j w hi hj hw hu hac) rfl gL_write_X5_write rfl rfl rfl rfl (by decide +kernel) ⟨Nat.le_of_ble_eq_true rfl, Nat.le_of_ble_eq_true rfl⟩ (wat_D E _) rfl rfl dL_write_4 ⟨by dsimp only; omega, by dsimp only; omega⟩ (Nat.le_of_ble_eq_true rfl) rfl (fun y hy => by simp at hy) (by decide) (by decide) (by decide +kernel) (by decide) (fun q => ?_)
  refine g_astore (lv' := [(0, _), (1, _), (2, _), (3, _), (4, _)]) h [1, 2, 3, 4, 0] dL_write_16 (by decide) rfl ?_
  refine g_bipush (v := -2) h dL_write_18 (by decide) ?_
  exact g_iret h hr hk dL_write_20 (by omega) (by omega) ⟨rfl, rfl⟩
set_option maxRecDepth 100000 in
set_option maxHeartbeats 400000 in
theorem w_evict_t (l : Launch) (E : gE) (x : St) (hlt : l.stackTraces = false) (v : Vw) (hV : VW x v [] []) (i : Nat) (j : Nat) (hi : i < 4) (hj : j < 16) (hh : nI (r_X0_holds v i j) = 0) : Ct l yL_evict wsL_evict { frames := 14, cells := 1, slots := 6, locals := 500 } E [.ref (aD E), .int (nI i), .int (nI j)] x (fun u y => u = some (.int (-1)) ∧ y = x) 1 6 := by
  refine CtW.of (cc := cL_evict) (nL := 4) (ret := (some .int)) (hh := [(0, 6, 7, 24), (0, 6, 10, 15)]) (by decide) rfl (Nat.le_of_ble_eq_true rfl) ?_
  intro p e s m args below meth c h hr hk htab
  refine g_lvs (lv' := [(0, _), (1, _), (2, _)]) rfl ?_
  refine g_aload_n h 0 dL_evict_0 rfl rfl ?_
  refine g_iload_n h 1 dL_evict_1 rfl rfl ?_
  refine g_iload_n h 2 dL_evict_2 rfl rfl ?_
  refine g_callVC (As := [.int (nI i), .int (nI j)]) (C := RX5) (hh := [(0, 6, 7, 24), (0, 6, 10, 15)]) h htab 2 [] (⟨0, 6, 7, 24⟩ : ExceptionTableEntry) [(⟨0, 6, 10, 15⟩ : ExceptionTableEntry)] (t_X5_evict_t l E _ hlt v [] hV i j hi hj hh) rfl gL_evict_X5_evict rfl rfl rfl rfl (by decide +kernel) ⟨Nat.le_of_ble_eq_true rfl, Nat.le_of_ble_eq_true rfl⟩ (wat_D E _) rfl rfl dL_evict_3 ⟨by dsimp only; omega, by dsimp only; omega⟩ (Nat.le_of_ble_eq_true rfl) rfl (fun y hy => by simp at hy) (by decide) (by decide) (by decide +kernel) (by decide) (fun q => ?_)
  refine g_astore_n (lv' := [(0, _), (1, _), (2, _), (3, _)]) h [1, 2, 3, 0] dL_evict_7 rfl (by decide) rfl ?_
  refine g_iconst (v := -1) h dL_evict_8 (by decide) ?_
  exact g_iret h hr hk dL_evict_9 (by omega) (by omega) ⟨rfl, rfl⟩
set_option maxRecDepth 100000 in
set_option maxHeartbeats 400000 in
theorem w_evict_s (l : Launch) (E : gE) (x : St) (hlt : l.stackTraces = false) (v : Vw) (hV : VW x v [] []) (i : Nat) (j : Nat) (hi : i < 4) (hj : j < 16) (hh : ¬ nI (r_X0_holds v i j) = 0) (he : ¬ (¬ v.x.FR i 0 = nI j ∧ nI (r_X0_lacksVictimRoomFor v i j) = 0)) : Ct l yL_evict wsL_evict { frames := 14, cells := 1, slots := 6, locals := 500 } E [.ref (aD E), .int (nI i), .int (nI j)] x (fun u y => u = some (.int (-2)) ∧ y = x) 1 6 := by
  refine CtW.of (cc := cL_evict) (nL := 4) (ret := (some .int)) (hh := [(0, 6, 7, 24), (0, 6, 10, 15)]) (by decide) rfl (Nat.le_of_ble_eq_true rfl) ?_
  intro p e s m args below meth c h hr hk htab
  refine g_lvs (lv' := [(0, _), (1, _), (2, _)]) rfl ?_
  refine g_aload_n h 0 dL_evict_0 rfl rfl ?_
  refine g_iload_n h 1 dL_evict_1 rfl rfl ?_
  refine g_iload_n h 2 dL_evict_2 rfl rfl ?_
  refine g_callVC (As := [.int (nI i), .int (nI j)]) (C := RX5) (hh := [(0, 6, 7, 24), (0, 6, 10, 15)]) h htab 2 [(⟨0, 6, 7, 24⟩ : ExceptionTableEntry)] (⟨0, 6, 10, 15⟩ : ExceptionTableEntry) [] (t_X5_evict_s l E _ hlt v [] hV i j hi hj hh he) rfl gL_evict_X5_evict rfl rfl rfl rfl (by decide +kernel) ⟨Nat.le_of_ble_eq_true rfl, Nat.le_of_ble_eq_true rfl⟩ (wat_D E _) rfl rfl dL_evict_3 ⟨by dsimp only; omega, by dsimp only; omega⟩ (Nat.le_of_ble_eq_true rfl) rfl (fun y hy => by rw [List.mem_singleton.mp hy]; exact ⟨by decide, "java/util/NoSuchElementException", by decide +kernel, by decide⟩) (by decide) (by decide) (by decide +kernel) (by decide) (fun q => ?_)
  refine g_astore_n (lv' := [(0, _), (1, _), (2, _), (3, _)]) h [1, 2, 3, 0] dL_evict_10 rfl (by decide) rfl ?_
  refine g_bipush (v := -2) h dL_evict_11 (by decide) ?_
  exact g_iret h hr hk dL_evict_13 (by omega) (by omega) ⟨rfl, rfl⟩
