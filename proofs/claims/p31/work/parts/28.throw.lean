/-- how a method ends that throws EX, and leaves the world as it was -/
def gXC (E : gE) (x : St) (EX : String) (sz : Nat) : String → State → State → Prop := fun C st t => C = EX ∧ va_P E.D vwCl (wd E x) t.heap ∧ va_D (va_A (wd E x) sz) (wd E x) ∧ va_F (va_A (wd E x) sz) st t
/-- a method's contract where it throws EX -/
def Tr (l : Launch) (y : MethodName) (ws : List Cond) (rm : Room) (E : gE) (av : List Value) (x : St) (EX : String) (mc ms : Nat) : Prop := ∀ sz : Nat, vx_Met l y ws rm (gPc E av x sz) (fun _ _ _ _ => False) (gXC E x EX sz) mc ms (va_A (wd E x) sz)
abbrev gQX (below : List Frame) (E : gE) (x : St) (s : State) (EX : String) (args : Array Value) (mc ms : Nat) : State → Prop := vx_MQ below (fun _ _ _ _ => False) (gXC E x EX s.heap.size) args s mc ms (gA E x s)
theorem gC.cast {E : gE} {U : State} (h : gW3 E U) {EX : String} (hc : (EX, EX) ∈ gcast) : (Cond.castable EX EX).before #[] U = true := h.2.1 _ hc
section GT
variable {p : Program} {l : Launch} {e : Env} {R : Room} {s : State} {m : MethodId} {args : Array Value} {below : List Frame} {meth : Method} {c : Code} {Q : State → Prop} {E : gE} {x : St} {nL cs sl : Nat} {cc : ByteArray} {own : String} {Ts : List Cond} {pc : Nat} {lv : List (Nat × Value)} {st : List Value}
theorem Tr.of {y : MethodName} {ws ws' : List Cond} {rm : Room} {av : List Value} {EX : String} {mc ms : Nat} {ret : Option FieldType} (hy : plainName y.cls = true) (hw : ws = Cond.code y cc nL ret :: ws') (hlen : (lg_sl av).length ≤ nL)
    (body : ∀ (p : Program) (e : Env) (s : State) (m : MethodId) (args : Array Value) (below : List Frame) (meth : Method) (c : Code), gO p s m args c cc nL y.cls ws E x → meth.locks = false → (∀ z ∈ c.exceptionTable.toList, False) → G p l e rm s m args below meth c (gQX below E x s EX args mc ms) E x nL 0 0 x 0 (lv_args 0 av) []) : Tr l y ws rm E av x EX mc ms := by
  intro sz
  refine vx_ofW hy hw ?_
  intro p e s m args below meth c s₁ B hml ht hv
  obtain ⟨rfl, hsz, hP, hK, hD, hZ⟩ := hv
  subst hsz
  have hown : s.vm.findClass y.cls = some m.cls := findClass_of_methodNamed B.named
  rw [lg_entry_eq]
  exact body p e s m _ below meth c ⟨B.exec, B.bytes, hml, hown, atoms_spec B.pre, hK, hZ⟩ B.notSynchronized ht s.heap [] _ hP hD.self va_S.rf (lv_entry av hlen)
/-- not caught here -/
theorem g_outX {H : Heap} {locs : List Loc} {ls : Array Slot} {EX : String} {ce : Cell} {q : Addr} {mc ms : Nat} (hlk : meth.locks = false) (ht : ∀ z ∈ c.exceptionTable.toList, False) (hP : va_P E.D vwCl (wd E x) H) (hD : va_D (gA E x s) (wd E x)) (hS : va_S (gA E x s) s.heap H locs) (hcell : H[q]? = some ce) (hv : ce.vm = .none) (hcl : s.vm.findClass EX = some ce.cls) (hc : cs ≤ mc) (hs : sl ≤ ms) :
    vx_W p l e R s m args below meth c H locs cs sl (gQX below E x s EX args mc ms) (F0 m pc ls st) q :=
  vx_out (fun z hz => (ht z hz).elim) hlk hcell hv hcl (fun t ht2 _ => ⟨rfl, by rw [ht2]; exact hP, hD.self, hS.F ht2⟩) hS.2.2 hc hs
theorem g_throwS (h : gO p s m args c cc nL RX5 Ts E x) (hl : l.stackTraces = false) (hlk : meth.locks = false) (ht : ∀ z ∈ c.exceptionTable.toList, False) {EX text : String} {names : List String} {ik is ic mc ms : Nat} (j : Nat) (hj : gstrs[j]? = some (is, text)) (hcls : Bundle.fit EX = true) (hnames : ∀ n ∈ names, Bundle.fit n = true) (hw1 : Cond.classLink RX5 ik EX ∈ Ts) (hw2 : Cond.initialized EX ∈ Ts) (hat : ∀ w ∈ (vx_atS RX5 ic EX names).filter goodWord, w ∈ Ts) (hcc : (EX, EX) ∈ gcast) (hng : ∀ w ∈ (vx_atS RX5 ic EX names).filter (fun w => !goodWord w), w ∈ [Cond.castable EX EX, .declares (Bundle.initS "java/lang/RuntimeException"), .declares (Bundle.initS "java/lang/Exception"), .declares (Bundle.initS Bundle.tN)]) (hgood : ∀ w ∈ Cond.classLink RX5 ik EX :: Cond.initialized EX :: vx_atS RX5 ic EX names, vx_ot w = true)
    (d0 : decode cc pc = .ok (.new ik, 3)) (d3 : decode cc (pc + 3) = .ok (.dup, 1)) (d4 : decode cc (pc + 4) = .ok (.ldc is, 2)) (d6 : decode cc (pc + 6) = .ok (.invokespecial ic, 3)) (d9 : decode cc (pc + 9) = .ok (.athrow, 1))
    (hRf : names.length + 3 < R.frames) (hRl : (st.map fun v => v.category).sum + (13 * (names.length + 1) + 43) ≤ R.locals) (hRc : cs + 1 ≤ R.cells) (hRs : sl + 6 ≤ R.slots) (hc : cs + 1 ≤ mc) (hs : sl + 6 ≤ ms) : G p l e R s m args below meth c (gQX below E x s EX args mc ms) E x nL cs sl x pc lv st := fun H locs ls hP hD hS hl2 => by
  have hz := h.2.2.2.2.2.2
  refine vx_throwS (names := names) (is := is) h.1 h.2.1 hl h.2.2.2.1 hcls hnames (h.2.2.2.2.1 _ hw1) (h.2.2.2.2.1 _ hw2) (hz.2.2.2.2.2.2.1.1 j _ hj) (vx_hat (fun w hw => h.2.2.2.2.1 _ (hat w hw)) hng (vx_c (va_Nw.use rfl (hz.2.2.2.2.2.2.1.2.1 _ hcc)) (vx_c (va_Nw.use rfl (hz.2.2.2.2.2.2.1.2.2.2 _ (by decide))) (vx_c (va_Nw.use rfl (hz.2.2.2.2.2.2.1.2.2.2 _ (by decide))) (vx_c (va_Nw.use rfl (hz.2.2.2.2.2.2.1.2.2.2 _ (by decide))) vx_n))))) hgood hz.2.2.1 hz.2.2.2.1 hS (by rw [h.2.2.1]; exact hl2.1) d0 d3 d4 d6 d9 (fun z hz => (ht z hz).elim) hRf hRl hRc hRs hlk (fun t _ h1 h2 => ⟨rfl, ?_, hD.self, ?_⟩) hS.2.2 hc hs
  · exact hP.kept (fun k q hk => h2 q.1 (vx_lt hP hk))
  · exact ⟨Nat.le_trans hS.1 h1, fun q g1 g2 => by rw [h2 q (Nat.lt_of_lt_of_le g1 hS.1)]; exact hS.2.1 q g1 g2⟩
theorem g_throwN (h : gO p s m args c cc nL RX5 Ts E x) (hl : l.stackTraces = false) (hlk : meth.locks = false) (ht : ∀ z ∈ c.exceptionTable.toList, False) {EX text : String} {Y9 : String} {r9 : List String} {ik is ic mc ms : Nat} (j : Nat) (hj : gstrs[j]? = some (is, text)) (hcls : Bundle.fit EX = true) (hnames : ∀ n ∈ Y9 :: r9, Bundle.fit n = true) (hw1 : Cond.classLink RX5 ik EX ∈ Ts) (hw2 : Cond.initialized EX ∈ Ts) (hat : ∀ w ∈ (nx_at RX5 ic EX Y9 r9).filter goodWord, w ∈ Ts) (hcc : (EX, EX) ∈ gcast) (hng : ∀ w ∈ (nx_at RX5 ic EX Y9 r9).filter (fun w => !goodWord w), w ∈ [Cond.castable EX EX, .declares (Bundle.initS "java/lang/RuntimeException"), .declares (Bundle.initS "java/lang/Exception"), .declares (Bundle.initS Bundle.tN)]) (hgood : ∀ w ∈ Cond.classLink RX5 ik EX :: Cond.initialized EX :: nx_at RX5 ic EX Y9 r9, vx_ot w = true)
    (d0 : decode cc pc = .ok (.new ik, 3)) (d3 : decode cc (pc + 3) = .ok (.dup, 1)) (d4 : decode cc (pc + 4) = .ok (.ldc is, 2)) (d6 : decode cc (pc + 6) = .ok (.invokespecial ic, 3)) (d9 : decode cc (pc + 9) = .ok (.athrow, 1))
    (hRf : (Y9 :: r9).length + 3 < R.frames) (hRl : (st.map fun v => v.category).sum + (13 * ((Y9 :: r9).length + 1) + 43) ≤ R.locals) (hRc : cs + 1 ≤ R.cells) (hRs : sl + 6 ≤ R.slots) (hc : cs + 1 ≤ mc) (hs : sl + 6 ≤ ms) : G p l e R s m args below meth c (gQX below E x s EX args mc ms) E x nL cs sl x pc lv st := fun H locs ls hP hD hS hl2 => by
  have hz := h.2.2.2.2.2.2
  refine nx_throw (Y9 := Y9) (r9 := r9) (is := is) h.1 h.2.1 hl h.2.2.2.1 hcls hnames (h.2.2.2.2.1 _ hw1) (h.2.2.2.2.1 _ hw2) (hz.2.2.2.2.2.2.1.1 j _ hj) (vx_hat (fun w hw => h.2.2.2.2.1 _ (hat w hw)) hng (vx_c (va_Nw.use rfl (hz.2.2.2.2.2.2.1.2.1 _ hcc)) (vx_c (va_Nw.use rfl (hz.2.2.2.2.2.2.1.2.2.2 _ (by decide))) (vx_c (va_Nw.use rfl (hz.2.2.2.2.2.2.1.2.2.2 _ (by decide))) (vx_c (va_Nw.use rfl (hz.2.2.2.2.2.2.1.2.2.2 _ (by decide))) vx_n))))) hgood hz.2.2.1 hz.2.2.2.1 hS (by rw [h.2.2.1]; exact hl2.1) d0 d3 d4 d6 d9 (fun z hz => (ht z hz).elim) hRf hRl hRc hRs hlk (fun t _ h1 h2 => ⟨rfl, ?_, hD.self, ?_⟩) hS.2.2 hc hs
  · exact hP.kept (fun k q hk => h2 q.1 (vx_lt hP hk))
  · exact ⟨Nat.le_trans hS.1 h1, fun q g1 g2 => by rw [h2 q (Nat.lt_of_lt_of_le g1 hS.1)]; exact hS.2.1 q g1 g2⟩
theorem g_runX {mc ms mc' ms' : Nat} {rest : List Value} {EX : String} {H : Heap} {locs : List Loc} {ls : Array Slot} {Qa : State → Outcome → State → Prop} (hlk : meth.locks = false) (ht : ∀ z ∈ c.exceptionTable.toList, False) (hQ : ∀ a b d, ¬ Qa a b d) (hr : vx_Run p l e R s m args below meth c H locs cs sl mc ms (F0 m pc ls st) rest Qa (gXC E x EX H.size) (va_A (wd E x) H.size))
    (hD : va_D (gA E x s) (wd E x)) (hS : va_S (gA E x s) s.heap H locs) (hc : cs + mc ≤ mc') (hs : sl + ms ≤ ms') : W p l e R s m args below meth c H locs cs sl (gQX below E x s EX args mc' ms') (F0 m pc ls st) := by
  intro T hT X
  rcases hr T hT X with ⟨v, st₀, t, T', L, h0, X', hL, e1, e2, hq, stp⟩ | ⟨q, st₀, t, T', L, E0, ce, h0, X', hL, e1, e2, ⟨rfl, hP1, hD1, hz, hk⟩, hce, hcv, hcl, stp⟩
  · exact absurd hq (hQ _ _ _)
  · have hA := gA_in hD hS
    rw [h0] at hz hk
    obtain ⟨t2, a1, b1⟩ := g_outX (pc := pc) (ls := ls) (st := rest) (H := T'.heap) (locs := locs ++ L) (EX := E0) (mc := mc') (ms := ms') hlk ht (by rw [e1]; exact hP1) (hD1.weaken (fun _ q _ h => hA q.1 h))
      ⟨Nat.le_trans hS.1 (by rw [e1]; exact hz), fun q h1 h2 => by rw [e1, hk q (Nat.lt_of_lt_of_le h1 hS.1) (fun z => h2 (hA q z))]; exact hS.2.1 q h1 h2, fun q hq => by
        rcases List.mem_append.mp hq with h | h
        · exact hS.2.2 q h
        · exact hA _ (hL q h)⟩ (by rw [e1]; exact hce) hcv hcl hc hs T' rfl X'
    exact ⟨t2, stp.trans a1, b1⟩
theorem g_callVX (h : gO p s m args c cc nL own Ts E x) (hlk : meth.locks = false) (ht : ∀ z ∈ c.exceptionTable.toList, False) {C : String} {ym : MethodName} {bytes : ByteArray} {maxL index mc ms mc' ms' ci b : Nat} {ret : Option FieldType} {ws ws' : List Cond} {rm : Room} {As rest : List Value} {fs : List Value} {r : vw_C} {EX : String} (n : Nat) (hM : Tr l ym ws rm E (.ref b :: As) x EX mc ms) (hst : st = As.reverse ++ .ref b :: rest) (hG : GoodIn Ts (wsV own index C ym ws)) (hw : ws = Cond.code ym bytes maxL ret :: ws') (hrc : rm.cells = mc) (hrs : rm.slots = ms) (hn : As.length = n)
    (hdd : ym.cls = C ∧ ym.cls ≠ "java/lang/invoke/MethodHandle" ∧ ym.cls ≠ "java/lang/invoke/VarHandle" ∧ (parseMethodDescriptor ym.desc).map (fun d => d.parameters.length) = some n) (hR : rm.frames + 1 ≤ R.frames ∧ 8 + (maxL + 11) + rm.locals ≤ R.locals)
    (hb : wat E x b (.inr (ci, fs))) (hc : vwCl[ci]? = some r) (hC : r.1 = C) (hd : decode cc pc = .ok (.invokevirtual index, 3)) (hf : cs + mc ≤ R.cells ∧ sl + ms ≤ R.slots) (hcat : (rest.map fun v => v.category).sum ≤ 8) (hmc : cs + mc ≤ mc') (hms : sl + ms ≤ ms') : G p l e R s m args below meth c (gQX below E x s EX args mc' ms') E x nL cs sl x pc lv st := fun H locs ls hP hD hS hl => by
  obtain ⟨q0, he⟩ := hb
  subst hC
  exact g_runX hlk ht (fun _ _ _ q => q) (vx_runV (As := As) (rest := rest) ⟨h.1, h.2.1, h.2.2.1, h.2.2.2.1, h.2.2.2.2.1⟩ (hM H.size) (cwV n h.2.2.2.2.1 hG hw hrc hrs hdd hR) ⟨gPc_blind, va_recv h.2.2.2.2.2.1 hP hc he, fun U hU hW => gPre h hP hD hS U hU hW⟩ rfl hn hl.1 hst (lv_room hcat) hd hf) hD hS hmc hms
theorem g_callSX (h : gO p s m args c cc nL own Ts E x) (hlk : meth.locks = false) (ht : ∀ z ∈ c.exceptionTable.toList, False) {ym : MethodName} {bytes : ByteArray} {maxL index mc ms mc' ms' : Nat} {ret : Option FieldType} {ws ws' : List Cond} {rm : Room} {As rest : List Value} {EX : String} (n : Nat) (hM : Tr l ym ws rm E As x EX mc ms) (hst : st = As.reverse ++ rest) (hG : GoodIn Ts (va_wsS own index ym ws)) (hw : ws = Cond.code ym bytes maxL ret :: ws') (hrc : rm.cells = mc) (hrs : rm.slots = ms) (hn : As.length = n)
    (hdd : ym.cls ≠ "java/lang/invoke/MethodHandle" ∧ ym.cls ≠ "java/lang/invoke/VarHandle" ∧ (parseMethodDescriptor ym.desc).map (fun d => d.parameters.length) = some n) (hR : rm.frames + 1 ≤ R.frames ∧ 8 + (maxL + 11) + rm.locals ≤ R.locals)
    (hd : decode cc pc = .ok (.invokestatic index, 3)) (hf : cs + mc ≤ R.cells ∧ sl + ms ≤ R.slots) (hcat : (rest.map fun v => v.category).sum ≤ 8) (hmc : cs + mc ≤ mc') (hms : sl + ms ≤ ms') : G p l e R s m args below meth c (gQX below E x s EX args mc' ms') E x nL cs sl x pc lv st := fun H locs ls hP hD hS hl =>
  g_runX hlk ht (fun _ _ _ q => q) (vx_runS (As := As) (rest := rest) ⟨h.1, h.2.1, h.2.2.1, h.2.2.2.1, h.2.2.2.2.1⟩ (hM H.size) (va_cwS n h.2.2.2.2.1 hG hw hrc hrs hdd hR) ⟨gPc_blind, fun U hU hW => gPre h hP hD hS U hU hW⟩ rfl hn hl.1 hst (lv_room hcat) hd hf) hD hS hmc hms
end GT
