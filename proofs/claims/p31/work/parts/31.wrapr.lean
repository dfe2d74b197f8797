section GW
variable {p : Program} {l : Launch} {e : Env} {R : Room} {s : State} {m : MethodId} {args : Array Value} {below : List Frame} {meth : Method} {c : Code} {Q : State → Prop} {E : gE} {S0 x y : St} {nL cs sl : Nat} {cc : ByteArray} {own : String} {Ts : List Cond} {pc : Nat} {lv lv' : List (Nat × Value)} {st : List Value}
/-- the contract of a method with handlers -/
theorem CtW.of {y : MethodName} {ws ws' : List Cond} {rm : Room} {av : List Value} {post : Option Value → St → Prop} {mc ms : Nat} {ret : Option FieldType} {hh : List (Nat × Nat × Nat × Nat)} (hy : plainName y.cls = true) (hw : ws = Cond.codeWith y cc nL ret hh :: ws') (hlen : (lg_sl av).length ≤ nL)
    (body : ∀ (p : Program) (e : Env) (s : State) (m : MethodId) (args : Array Value) (below : List Frame) (meth : Method) (c : Code), gO p s m args c cc nL y.cls ws E x → meth.sig.returnType = ret → meth.locks = false → c.exceptionTable.toList = tableOf hh → G p l e rm s m args below meth c (gQ below E x s post args mc ms) E x nL 0 0 x 0 (lv_args 0 av) []) : Ct l y ws rm E av x post mc ms := by
  intro sz
  refine va_MetW hy hw ?_
  intro p e s m args below meth c s₁ B hml hv
  obtain ⟨rfl, hsz, hP, hK, hD, hZ⟩ := hv
  subst hsz
  have hown : s.vm.findClass y.cls = some m.cls := findClass_of_methodNamed B.named
  have htab : c.exceptionTable.toList = tableOf hh := vx_table (x := y) B (atoms_spec B.pre _ (by rw [hw]; exact List.mem_cons_self))
  rw [lg_entry_eq]
  exact body p e s m _ below meth c ⟨B.exec, B.bytes, hml, hown, atoms_spec B.pre, hK, hZ⟩ B.returns B.notSynchronized htab s.heap [] _ hP hD.self va_S.rf (lv_entry av hlen)
/-- a call that throws, caught by the row z of the table -/
theorem g_callVC (h : gO p s m args c cc nL own Ts E S0) {hh : List (Nat × Nat × Nat × Nat)} (htab : c.exceptionTable.toList = tableOf hh) {C : String} {ym : MethodName} {bytes : ByteArray} {maxL index mc ms ci b : Nat} {ret : Option FieldType} {ws ws' : List Cond} {rm : Room} {As rest : List Value} {fs : List Value} {r : vw_C} {EX : String} (n : Nat) (pre : List ExceptionTableEntry) (z : ExceptionTableEntry) (suf : List ExceptionTableEntry) (hM : Tr l ym ws rm E (.ref b :: As) x EX mc ms) (hst : st = As.reverse ++ .ref b :: rest) (hG : GoodIn Ts (wsV own index C ym ws)) (hw : ws = Cond.code ym bytes maxL ret :: ws') (hrc : rm.cells = mc) (hrs : rm.slots = ms) (hn : As.length = n)
    (hdd : ym.cls = C ∧ ym.cls ≠ "java/lang/invoke/MethodHandle" ∧ ym.cls ≠ "java/lang/invoke/VarHandle" ∧ (parseMethodDescriptor ym.desc).map (fun d => d.parameters.length) = some n) (hR : rm.frames + 1 ≤ R.frames ∧ 8 + (maxL + 11) + rm.locals ≤ R.locals)
    (hb : wat E x b (.inr (ci, fs))) (hc : vwCl[ci]? = some r) (hC : r.1 = C) (hd : decode cc pc = .ok (.invokevirtual index, 3)) (hf : cs + mc ≤ R.cells ∧ sl + ms ≤ R.slots) (hcat : (rest.map fun v => v.category).sum ≤ 8)
    (hsplit : tableOf hh = pre ++ z :: suf) (hpass : ∀ y ∈ pre, y.catchType ≠ 0 ∧ ∃ nm : String, Cond.classLink own y.catchType nm ∈ Ts ∧ (EX, nm) ∈ gnot) (hx : covers z pc = true) (h0 : z.catchType ≠ 0) (hlink : Cond.classLink own z.catchType EX ∈ Ts) (hcc : (EX, EX) ∈ gcast)
    (kk : ∀ q : Nat, G p l e R s m args below meth c Q E S0 nL (cs + mc) (sl + ms) x z.handlerPc lv [.ref q]) : G p l e R s m args below meth c Q E S0 nL cs sl x pc lv st := fun H locs ls hP hD hS hl => by
  obtain ⟨q0, he⟩ := hb
  subst hC
  have hr := vx_runV (e := e) (below := below) (meth := meth) (locs := locs) (cells := cs) (slots := sl) (As := As) (rest := rest) ⟨h.1, h.2.1, h.2.2.1, h.2.2.2.1, h.2.2.2.2.1⟩ (hM H.size) (cwV n h.2.2.2.2.1 hG hw hrc hrs hdd hR) ⟨gPc_blind, va_recv h.2.2.2.2.2.1 hP hc he, fun U hU hW => gPre h hP hD hS U hU hW⟩ (g := F0 m pc ls st) rfl hn hl.1 hst (lv_room hcat) hd hf
  intro T hT X
  rcases hr T hT X with ⟨v, st₀, t, T', L, h0', X', hL, e1, e2, hq, stp⟩ | ⟨q, st₀, t, T', L, E0, ce, h0', X', hL, e1, e2, ⟨rfl, hP1, hD1, hz, hk⟩, hce, hcv, hcl, stp⟩
  · exact absurd hq (fun q => q)
  · have hA := gA_in hD hS
    rw [h0'] at hz hk
    have hzz := h.2.2.2.2.2.2.2.2.2.2.2.2.1
    obtain ⟨t2, a1, b1⟩ := vx_catch (pc := pc) (ls := ls) (rest := rest) (H := T'.heap) (locs := locs ++ L) (cells := cs + mc) (slots := sl + ms) (Q := Q) h.2.2.2.1 pre z suf (htab.trans hsplit) (fun y hy => Or.inr ⟨(hpass y hy).1, by
        obtain ⟨-, nm, g1, g2⟩ := hpass y hy
        exact ⟨nm, h.2.2.2.2.1 _ g1, hzz.2.2.1 _ g2⟩⟩) hx h0 (h.2.2.2.2.1 _ hlink) (va_Nw.use rfl (hzz.2.1 _ hcc)) (by rw [e1]; exact hce) hcv hcl
      (kk q T'.heap (locs ++ L) ls (by rw [e1]; exact hP1) (hD1.weaken (fun _ q _ h => hA q.1 h))
        ⟨Nat.le_trans hS.1 (by rw [e1]; exact hz), fun q h1 h2 => by rw [e1, hk q (Nat.lt_of_lt_of_le h1 hS.1) (fun z => h2 (hA q z))]; exact hS.2.1 q h1 h2, fun q hq => by
          rcases List.mem_append.mp hq with h | h
          · exact hS.2.2 q h
          · exact hA _ (hL q h)⟩ hl) T' rfl X'
    exact ⟨t2, stp.trans a1, b1⟩
theorem ou_cell {c : ClassId} {w v : Int64} : vp_cell c (1, .inr (.inl (vp_updL (fun _ => w) 0 v))) = vp_cell c (1, .inr (.inl (fun _ => v))) := by
  show arrV c 1 (fun j => .long (vp_updL (fun _ => w) 0 v j)) = arrV c 1 (fun _ => .long v)
  unfold arrV
  congr 1
end GW
