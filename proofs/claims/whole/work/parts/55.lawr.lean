/-! ===== rules for the law's own walk: the script, its length, the cell of the answer ===== -/
section LAWR
variable {p : Program} {l : Launch} {e : Env} {R : Room} {s : State} {m : MethodId} {args : Array Value} {below : List Frame} {meth : Method} {c : Code} {Q : State → Prop} {E : gE} {S0 x : St} {nL cs sl : Nat} {cc : ByteArray} {own : String} {Ts : List Cond} {pc : Nat} {lv : List (Nat × Value)} {st : List Value} {b L : Nat} {xs : Nat → Int32}
theorem g_sld (h : gO p s m args c cc nL own Ts E S0) (hX : va_X b L xs s s.heap) (hbl : b < s.heap.size) (hbA : ¬ gA E S0 s b) {j : Nat} (hj : j < L) (hL : L < 2 ^ 31) (hd : decode cc pc = .ok (.iaload, 1)) (kk : G p l e R s m args below meth c Q E S0 nL cs sl x (pc + 1) lv (.int (xs j) :: st)) : G p l e R s m args below meth c Q E S0 nL cs sl x pc lv (.int (nI j) :: .ref b :: st) := fun H locs ls hP hD hS hl => by
  refine va_sld h.1 h.2.1 hX hbl hbA hS (vp_in_nI hj hL) hd ?_
  rw [nI_clamp (by omega)]
  exact kk H locs ls hP hD hS hl
theorem g_slen (h : gO p s m args c cc nL own Ts E S0) (hX : va_X b L xs s s.heap) (hbl : b < s.heap.size) (hbA : ¬ gA E S0 s b) (hd : decode cc pc = .ok (.arraylength, 1)) (kk : G p l e R s m args below meth c Q E S0 nL cs sl x (pc + 1) lv (.int (nI L) :: st)) : G p l e R s m args below meth c Q E S0 nL cs sl x pc lv (.ref b :: st) := fun H locs ls hP hD hS hl => by
  refine va_slen h.1 h.2.1 hX hbl hbA hS hd ?_
  exact kk H locs ls hP hD hS hl
theorem g_lald0 (h : gO p s m args c cc nL own Ts E S0) (hd : decode cc pc = .ok (.laload, 1)) (kk : G p l e R s m args below meth c Q E S0 nL cs sl x (pc + 1) lv (.long x.OU :: st)) : G p l e R s m args below meth c Q E S0 nL cs sl x pc lv (.int (nI 0) :: .ref (aO E) :: st) := fun H locs ls hP hD hS hl => by
  obtain ⟨q0, he⟩ := wat_O E x
  refine va_lald h.1 h.2.1 h.2.2.2.2.2.1 hP q0 5 he rfl (vp_in_nI (by decide) (by decide)) hd ?_
  exact kk H locs ls hP hD hS hl
theorem cmp_s (a : Int64) : lg_cmp a a = 0 := by
  unfold lg_cmp
  simp
end LAWR
