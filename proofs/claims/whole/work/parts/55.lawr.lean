/-! ===== rules for the law's own walk: the script, its length, the cell of the answer ===== -/
section LAWR
variable {p : Program} {l : Launch} {e : Env} {R : Room} {s : State} {m : MethodId} {args : Array Value} {below : List Frame} {meth : Method} {c : Code} {Q : State → Prop} {E : gE} {S0 x : St} {nL cs sl : Nat} {cc : ByteArray} {own : String} {Ts : List Cond} {pc : Nat} {lv : List (Nat × Value)} {st : List Value} {b L : Nat} {xs : Nat → Int32}
theorem g_sld (h : gO p s m args c cc nL own Ts E S0) (hX : va_X b L xs s s.heap) (hbl : b < s.heap.size) (hbA : ¬ gA E S0 s b) {j : Nat} (hj : j < L) (hL : L < 2 ^ 31) (hd : decode cc pc = .ok (.iaload, 1)) (kk : G p l e R s m args below meth c Q E S0 nL cs sl x (pc + 1) lv (.int (xs j) :: st)) : G p l e R s m args below meth c Q E S0 nL cs sl x pc lv (.int (nI j) :: .ref b :: st) := fun H locs ls hP hD hS hl => by
  refine va_sld h.1 h.2.1 hX hbl hbA hS (vp_in_nI hj hL) hd ?_
  rw [nI_clamp (by omega)]
  exact kk H locs ls hP hD hS hl
theorem g_slen (h : gO p s m args c cc nL own Ts E S0) (hX : va_X b L xs s s.heap) (hbl : b < s.heap.size) (hbA : ¬ gA E S0 s b) (hd : decode cc pc = .ok (.arraylength, 1)) (kk : G p l e R s m args below meth c Q E S0 nL cs sl x (pc + 1) lv (.int (nI L) :: st)) : G p l e R s m args below meth c Q E S0 nL cs sl x pc lv (.ref b :: st) := fun H locs ls hP hD hS hl => by
  refine va_slen h.1 h.2.1 hX hbl hbA hS hd ?_
  exact kk H locs ls hP hD hS hl
theorem g_lald0 (h : gO p s m args c cc nL own Ts E S0) (hd : decode cc pc = .ok (.laload, 1)) (kk : G p l e R s m args below meth c Q E S0 nL cs sl x (pc + 1) lv (.long x.OU :: st)) : G p l e R s m args below meth c Q E S0 nL cs sl x pc lv (.int (nI 0) :: .ref (aO E) :: st) := fun H locs ls hP hD hS hl => by
  obtain ⟨q0, he⟩ := wat_O E x
  refine va_lald h.1 h.2.1 h.2.2.2.2.2.1 hP q0 5 he rfl (vp_in_nI (by decide) (by decide)) hd ?_
  exact kk H locs ls hP hD hS hl
theorem cmp_s (a : Int64) : lg_cmp a a = 0 := by
  unfold lg_cmp
  simp
/-- a static call of a method with handlers -/
theorem g_callSW (h : gO p s m args c cc nL own Ts E S0) {ym : MethodName} {bytes : ByteArray} {maxL index mc ms : Nat} {ret : Option FieldType} {hh : List (Nat × Nat × Nat × Nat)} {ws ws' : List Cond} {rm : Room} {As rest : List Value} {post : Option Value → St → Prop} (n : Nat) (hM : Ct l ym ws rm E As x post mc ms) (hst : st = As.reverse ++ rest) (hG : GoodIn Ts (va_wsS own index ym ws)) (hw : ws = Cond.codeWith ym bytes maxL ret hh :: ws') (hrc : rm.cells = mc) (hrs : rm.slots = ms) (hn : As.length = n)
    (hdd : ym.cls ≠ "java/lang/invoke/MethodHandle" ∧ ym.cls ≠ "java/lang/invoke/VarHandle" ∧ (parseMethodDescriptor ym.desc).map (fun d => d.parameters.length) = some n) (hR : rm.frames + 1 ≤ R.frames ∧ 8 + (maxL + 11) + rm.locals ≤ R.locals)
    (hd : decode cc pc = .ok (.invokestatic index, 3)) (hf : cs + mc ≤ R.cells ∧ sl + ms ≤ R.slots) (hcat : (rest.map fun v => v.category).sum ≤ 8)
    (kk : ∀ (v : Option Value) (y : St), post v y → G p l e R s m args below meth c Q E S0 nL (cs + mc) (sl + ms) y (pc + 3) lv (v.toList ++ rest)) : G p l e R s m args below meth c Q E S0 nL cs sl x pc lv st := fun H locs ls hP hD hS hl =>
  g_run (vx_runSW (As := As) (rest := rest) ⟨h.1, h.2.1, h.2.2.1, h.2.2.2.1, h.2.2.2.2.1⟩ (hM H.size) (vx_cwSW n h.2.2.2.2.1 hG hw hrc hrs hdd hR) ⟨gPc_blind, fun U hU hW => gPre h hP hD hS U hU hW⟩ rfl hn hl.1 hst (lv_room hcat) hd hf) hD hS hl kk
end LAWR
