section GL
variable {p : Program} {l : Launch} {e : Env} {R : Room} {s : State} {m : MethodId} {args : Array Value} {below : List Frame} {meth : Method} {c : Code} {Q : State → Prop} {E : gE} {S0 x y : St} {nL cs sl : Nat} {cc : ByteArray} {own : String} {Ts : List Cond} {pc : Nat} {lv lv' : List (Nat × Value)} {st : List Value}
theorem g_eqv {a b : Value} (hab : a = b) (kk : G p l e R s m args below meth c Q E S0 nL cs sl x pc lv (b :: st)) : G p l e R s m args below meth c Q E S0 nL cs sl x pc lv (a :: st) := hab ▸ kk
theorem g_qald (h : gO p s m args c cc nL own Ts E S0) {a n j t0 q : Nat} {C : String} {cA : ClassId} {f : Nat → Option Nat} (hw : wat E x a (.inl (cA, n, .inr (.inr (.inr (.inr f)))))) (ht : (gtys E)[t0]? = some (cA, .object C)) (hj : j < n) (hn : n < 2 ^ 31) (hv : f j = some q) (hd : decode cc pc = .ok (.aaload, 1)) (kk : G p l e R s m args below meth c Q E S0 nL cs sl x (pc + 1) lv (.ref q :: st)) : G p l e R s m args below meth c Q E S0 nL cs sl x pc lv (.int (nI j) :: .ref a :: st) := fun H locs ls hP hD hS hl => by
  obtain ⟨q0, he⟩ := hw
  refine va_aldq h.1 h.2.1 h.2.2.2.2.2.1 hP q0 t0 he ht (vp_in_nI hj hn) hd ?_
  rw [nI_clamp (by omega), hv]
  exact kk H locs ls hP hD hS hl
theorem g_blen (h : gO p s m args c cc nL own Ts E S0) {a n : Nat} {f : Nat → Option Nat} (hw : wat E x a (eB E n f)) (hd : decode cc pc = .ok (.arraylength, 1)) (kk : G p l e R s m args below meth c Q E S0 nL cs sl x (pc + 1) lv (.int (nI n) :: st)) : G p l e R s m args below meth c Q E S0 nL cs sl x pc lv (.ref a :: st) := fun H locs ls hP hD hS hl => by
  obtain ⟨q0, he⟩ := hw
  exact va_alen h.1 h.2.1 h.2.2.2.2.2.1 hP q0 4 he (ty := .object "java/lang/Object") rfl (v := nI n) rfl hd (kk H locs ls hP hD hS hl)
theorem g_zlen (h : gO p s m args c cc nL own Ts E S0) (hd : decode cc pc = .ok (.arraylength, 1)) (kk : G p l e R s m args below meth c Q E S0 nL cs sl x (pc + 1) lv (.int (nI 0) :: st)) : G p l e R s m args below meth c Q E S0 nL cs sl x pc lv (.ref E.z :: st) := fun H locs ls hP hD hS hl =>
  va_tlen h.1 h.2.1 h.2.2.2.2.2.2.2.1 hS rfl hd (kk H locs ls hP hD hS hl)
theorem g_getsZ (h : gO p s m args c cc nL own Ts E S0) {index : Nat} (hlink : Cond.fieldLink own index "java/util/ArrayList" "DEFAULTCAPACITY_EMPTY_ELEMENTDATA" "[Ljava/lang/Object;" ∈ Ts) (hd : decode cc pc = .ok (.getstatic index, 3)) (kk : G p l e R s m args below meth c Q E S0 nL cs sl x (pc + 3) lv (.ref E.z :: st)) : G p l e R s m args below meth c Q E S0 nL cs sl x pc lv st := fun H locs ls hP hD hS hl =>
  va_gets h.1 h.2.1 h.2.2.2.2.2.2.1 hS h.2.2.2.1 (h.2.2.2.2.1 _ hlink) (fun _ h9 => h9) hd (kk H locs ls hP hD hS hl)
theorem g_acmp_eq_t (h : gO p s m args c cc nL own Ts E S0) {a : Nat} {off : Int} (tgt : Nat) (hd : decode cc pc = .ok (.if_acmp .eq off, 3)) (ht : (pc : Int) + off = (tgt : Int)) (kk : G p l e R s m args below meth c Q E S0 nL cs sl x tgt lv st) : G p l e R s m args below meth c Q E S0 nL cs sl x pc lv (.ref a :: .ref a :: st) := fun H locs ls hP hD hS hl =>
  lv_acmp_eq (rx := some a) (ry := some a) h.1 h.2.1 hd ht (fun _ => kk H locs ls hP hD hS hl) (fun z => absurd rfl z)
theorem g_acmp_ne_f (h : gO p s m args c cc nL own Ts E S0) {a : Nat} {off : Int} {tgt : Nat} (hd : decode cc pc = .ok (.if_acmp .ne off, 3)) (ht : (pc : Int) + off = (tgt : Int)) (kk : G p l e R s m args below meth c Q E S0 nL cs sl x (pc + 3) lv st) : G p l e R s m args below meth c Q E S0 nL cs sl x pc lv (.ref a :: .ref a :: st) := fun H locs ls hP hD hS hl =>
  lv_acmp_ne (rx := some a) (ry := some a) h.1 h.2.1 hd ht (fun z => absurd rfl z) (fun _ => kk H locs ls hP hD hS hl)
theorem g_astM (h : gO p s m args c cc nL own Ts E S0) {a n j v : Nat} {f : Nat → Option Nat} (hw : wsg E x a (eB E n f) (eB E n (va_up f j (some v))) y) (hm : v ∈ x.PL) (hk : x.PK v = true) (hj : j < n) (hn : n < 2 ^ 31) (hd : decode cc pc = .ok (.aastore, 1)) (kk : G p l e R s m args below meth c Q E S0 nL cs sl y (pc + 1) lv st) : G p l e R s m args below meth c Q E S0 nL cs sl x pc lv (.ref v :: .int (nI j) :: .ref a :: st) := fun H locs ls hP hD hS hl => by
  obtain ⟨q0, he, hset⟩ := hw _ hD
  obtain ⟨qk, hv⟩ := wat_Ms E x hm hk
  refine va_astqO h.1 h.2.1 h.2.2.2.2.2.1 hP hD hS q0 4 qk 3 he (E := "java/lang/Object") rfl h.2.2.2.2.2.2.2.2.2.2.2.2.2.1 hv rfl (vp_in_nI hj hn) hd (fun H1 locs1 hP1 hD1 hS1 => ?_)
  rw [nI_clamp (by omega), show (a, (Sum.inl (E.cid 4, n, .inr (.inr (.inr (.inr (va_up f j (some v)))))) : va_E)) = (a, eB E n (va_up f j (some v))) from rfl, hset] at hP1 hD1
  exact kk H1 locs1 ls hP1 hD1 hS1 hl
theorem g_astN (h : gO p s m args c cc nL own Ts E S0) {a n j : Nat} {f : Nat → Option Nat} (hw : wsg E x a (eB E n f) (eB E n (va_up f j none)) y) (hj : j < n) (hn : n < 2 ^ 31) (hd : decode cc pc = .ok (.aastore, 1)) (kk : G p l e R s m args below meth c Q E S0 nL cs sl y (pc + 1) lv st) : G p l e R s m args below meth c Q E S0 nL cs sl x pc lv (.null :: .int (nI j) :: .ref a :: st) := fun H locs ls hP hD hS hl => by
  obtain ⟨q0, he, hset⟩ := hw _ hD
  refine va_astqN h.1 h.2.1 h.2.2.2.2.2.1 hP hD hS q0 4 he (C := "java/lang/Object") rfl (vp_in_nI hj hn) hd (fun H1 locs1 hP1 hD1 hS1 => ?_)
  rw [nI_clamp (by omega), show (a, (Sum.inl (E.cid 4, n, .inr (.inr (.inr (.inr (va_up f j none))))) : va_E)) = (a, eB E n (va_up f j none)) from rfl, hset] at hP1 hD1
  exact kk H1 locs1 ls hP1 hD1 hS1 hl
theorem gA_new {q : Nat} : s.heap.size ≤ q → gA E S0 s q := fun hq => Or.inr hq
theorem g_newB (h : gO p s m args c cc nL own Ts E S0) {index n : Nat} (hlink : Cond.classLink own index "java/lang/Object" ∈ Ts) (hn : n < 100000) (hc : cs + 1 ≤ R.cells) (hs : sl + n ≤ R.slots) (hd : decode cc pc = .ok (.anewarray index, 3))
    (kk : ∀ q : Nat, q ∉ x.PL → G p l e R s m args below meth c Q E S0 nL (cs + 1) (sl + n) (x.addB q n) (pc + 3) lv (.ref q :: st)) : G p l e R s m args below meth c Q E S0 nL cs sl x pc lv (.int (nI n) :: st) := fun H locs ls hP hD hS hl => by
  refine va_newq h.1 h.2.1 h.2.2.2.1 (h.2.2.2.2.1 _ hlink) h.2.2.2.2.2.2.2.2.2.2.1 h.2.2.2.2.2.1 hP hD hS (fun q hq => gA_new hq) (nI_pos (by omega)) (nI_clamp (by omega)) (by omega) hc hs hd (fun q cA H1 hK1 hP1 hD1 hS1 => ?_)
  have e : cA = E.cid 4 := by
    obtain ⟨k1, c1, g1, g2, g3, g4⟩ := (hK1.2 4 (E.cid 4, .object "java/lang/Object") rfl).2
    obtain ⟨k2, c2, f1, f2, f3, f4⟩ := (hK1.2 5 (cA, .object "java/lang/Object") rfl).2
    exact Option.some.inj (f4.symm.trans g4)
  subst e
  have hq := wd_fresh hD1
  have ew : wd E x ++ [(q, (Sum.inl (E.cid 4, n, .inr (.inr (.inr (.inr (fun _ => none))))) : va_E))] = wd E (x.addB q n) := wd_addB hq
  rw [ew] at hP1 hD1
  exact kk q hq H1 locs ls hP1 hD1 hS1 hl
theorem g_newM (h : gO p s m args c cc nL own Ts E S0) {index : Nat} (hin : ∀ w ∈ u_ws RX2 TX2 7, w ∈ Ts) (hlink : Cond.classLink own index RX2 ∈ Ts) (hinst : Cond.instantiable RX2 7 ∈ Ts) (hini : Cond.initialized RX2 ∈ Ts) (hc : cs + 1 ≤ R.cells) (hs : sl + 7 ≤ R.slots) (hd : decode cc pc = .ok (.new index, 3))
    (kk : ∀ q : Nat, q ∉ x.PL → G p l e R s m args below meth c Q E S0 nL (cs + 1) (sl + 7) (x.addM q) (pc + 3) lv (.ref q :: st)) : G p l e R s m args below meth c Q E S0 nL cs sl x pc lv st := fun H locs ls hP hD hS hl => by
  refine va_new (ci := 3) (fs := [.int 0, .int 0, .int 0, .int 0, .int 0, .int 0, .int 0]) (C := RX2) (T := TX2) (N := 7) h.1 h.2.1 h.2.2.2.2.1 hin tyX2 tyX2_ok h.2.2.2.1 (h.2.2.2.2.1 _ hlink) (h.2.2.2.2.1 _ hinst) (h.2.2.2.2.1 _ hini) h.2.2.2.2.2.1 hP hD hS (fun q hq => gA_new hq) rfl (fun j hj => by rcases (show j = 0 ∨ j = 1 ∨ j = 2 ∨ j = 3 ∨ j = 4 ∨ j = 5 ∨ j = 6 by omega) with rfl | rfl | rfl | rfl | rfl | rfl | rfl <;> rfl) hc hs hd (fun q H1 hP1 hD1 hS1 => ?_)
  have hq := wd_fresh hD1
  rw [wd_addM hq] at hP1 hD1
  exact kk q hq H1 locs ls hP1 hD1 hS1 hl
theorem g_objInit (h : gO p s m args c cc nL own Ts E S0) {idx a : Nat} (hlink : Cond.methodLink own idx objectInit ∈ Ts) (hinst : Cond.instanceMethod objectInit ∈ Ts) (hcode : Cond.code objectInit ⟨#[0xb1]⟩ 1 none ∈ Ts) (hfr : 1 ≤ R.frames) (hlo : (st.map fun v => v.category).sum + 12 ≤ R.locals) (hd : decode cc pc = .ok (.invokespecial idx, 3)) (kk : G p l e R s m args below meth c Q E S0 nL cs sl x (pc + 3) lv st) : G p l e R s m args below meth c Q E S0 nL cs sl x pc lv (.ref a :: st) := fun H locs ls hP hD hS hl =>
  W.objInit h.1 h.2.1 h.2.2.2.1 (h.2.2.2.2.1 _ hlink) (h.2.2.2.2.1 _ hinst) (h.2.2.2.2.1 _ hcode) rfl (by rw [h.2.2.1]; exact hl.1) rfl hd hfr (by show 2 * 0 + _ + 12 ≤ _; omega) (kk H locs ls hP hD hS hl)
theorem g_max (h : gO p s m args c cc nL own Ts E S0) {index a b : Nat} (hlink : Cond.methodLink own index Lib.Math.max.name ∈ Ts) (hstat : Cond.static Lib.Math.max.name ∈ Ts) (hini : Cond.initialized "java/lang/Math" ∈ Ts) (hcode : Cond.code Lib.Math.max.name Lib.Math.max.code 2 (some .int) ∈ Ts) (ha : a < 2 ^ 31) (hb : b < 2 ^ 31) (hfr : 1 ≤ R.frames) (hlo : (st.map fun v => v.category).sum + 13 ≤ R.locals) (hc : cs ≤ R.cells) (hs : sl ≤ R.slots) (hd : decode cc pc = .ok (.invokestatic index, 3)) (kk : G p l e R s m args below meth c Q E S0 nL cs sl x (pc + 3) lv (.int (nI (max a b)) :: st)) : G p l e R s m args below meth c Q E S0 nL cs sl x pc lv (.int (nI b) :: .int (nI a) :: st) := fun H locs ls hP hD hS hl => by
  refine va_mmax h.1 h.2.1 (by rw [h.2.2.1]; exact hl.1.symm) h.2.2.2.1 (h.2.2.2.2.1 _ hlink) (h.2.2.2.2.1 _ hstat) (h.2.2.2.2.1 _ hini) (h.2.2.2.2.1 _ hcode) hfr hlo hc hs hd ?_
  have e : (if nI a < nI b then nI b else nI a) = nI (max a b) := by
    by_cases hab : a < b
    · rw [if_pos (nI_lt hab hb), Nat.max_eq_right (by omega)]
    · rw [if_neg (nI_nlt (by omega) ha), Nat.max_eq_left (by omega)]
  rw [e]
  exact kk H locs ls hP hD hS hl
theorem g_min (h : gO p s m args c cc nL own Ts E S0) {index a b : Nat} (hlink : Cond.methodLink own index Lib.Math.min.name ∈ Ts) (hstat : Cond.static Lib.Math.min.name ∈ Ts) (hini : Cond.initialized "java/lang/Math" ∈ Ts) (hcode : Cond.code Lib.Math.min.name Lib.Math.min.code 2 (some .int) ∈ Ts) (ha : a < 2 ^ 31) (hb : b < 2 ^ 31) (hab : a ≤ b) (hfr : 1 ≤ R.frames) (hlo : (st.map fun v => v.category).sum + 13 ≤ R.locals) (hc : cs ≤ R.cells) (hs : sl ≤ R.slots) (hd : decode cc pc = .ok (.invokestatic index, 3)) (kk : G p l e R s m args below meth c Q E S0 nL cs sl x (pc + 3) lv (.int (nI a) :: st)) : G p l e R s m args below meth c Q E S0 nL cs sl x pc lv (.int (nI b) :: .int (nI a) :: st) := fun H locs ls hP hD hS hl => by
  refine va_mmin h.1 h.2.1 (by rw [h.2.2.1]; exact hl.1.symm) h.2.2.2.1 (h.2.2.2.2.1 _ hlink) (h.2.2.2.2.1 _ hstat) (h.2.2.2.2.1 _ hini) (h.2.2.2.2.1 _ hcode) hfr hlo hc hs hd ?_
  first
    | (rw [if_neg (nI_nlt hab hb)]; exact kk H locs ls hP hD hS hl)
    | (rw [if_pos (nI_le hab hb)]; exact kk H locs ls hP hD hS hl)
    | (split
       · rename_i hq
         have := (nI_ltI hb ha).mp hq
         omega
       · exact kk H locs ls hP hD hS hl)
theorem g_ldcM (h : gO p s m args c cc nL own Ts E S0) {index : Nat} (hlink : Cond.classLink own index "[Ljava/lang/Object;" ∈ Ts) (hd : decode cc pc = .ok (.ldc index, 2)) (kk : G p l e R s m args below meth c Q E S0 nL cs sl x (pc + 2) lv (.ref (E.sa 100) :: st)) : G p l e R s m args below meth c Q E S0 nL cs sl x pc lv st := fun H locs ls hP hD hS hl =>
  va_ldcM h.1 h.2.1 h.2.2.2.1 (h.2.2.2.2.1 _ hlink) h.2.2.2.2.2.2.2.2.2.2.2.1 hd (kk H locs ls hP hD hS hl)
theorem g_getC (h : gO p s m args c cc nL own Ts E S0) {index a n : Nat} {f : Nat → Option Nat} (hlink : Cond.methodLink own index ⟨"java/lang/Object", "getClass", "()Ljava/lang/Class;"⟩ ∈ Ts) (hsel : Cond.selects "[Ljava/lang/Object;" ⟨"java/lang/Object", "getClass", "()Ljava/lang/Class;"⟩ ⟨"java/lang/Object", "getClass", "()Ljava/lang/Class;"⟩ ∈ Ts) (hinst : Cond.instanceMethod ⟨"java/lang/Object", "getClass", "()Ljava/lang/Class;"⟩ ∈ Ts) (hnat : Cond.native ⟨"java/lang/Object", "getClass", "()Ljava/lang/Class;"⟩ ∈ Ts)
    (hw : wat E x a (eB E n f)) (hfr : 1 ≤ R.frames) (hlo : (st.map fun v => v.category).sum + 14 ≤ R.locals) (hd : decode cc pc = .ok (.invokevirtual index, 3)) (kk : G p l e R s m args below meth c Q E S0 nL cs sl x (pc + 3) lv (.ref (E.sa 100) :: st)) : G p l e R s m args below meth c Q E S0 nL cs sl x pc lv (.ref a :: st) := fun H locs ls hP hD hS hl => by
  obtain ⟨q0, he⟩ := hw
  refine va_getC h.1 h.2.1 (by rw [h.2.2.1]; exact hl.1.symm) h.2.2.2.1 (h.2.2.2.2.1 _ hlink) h.2.2.2.2.2.2.2.2.2.2.2.2.2.2.use (h.2.2.2.2.1 _ hsel) (h.2.2.2.2.1 _ hinst) (h.2.2.2.2.1 _ hnat) h.2.2.2.2.2.2.2.2.2.2.2.1 ?_ hfr hlo hd (kk H locs ls hP hD hS hl)
  obtain ⟨k1, c1, g1, g2, g3, g4⟩ := (h.2.2.2.2.2.1.2 4 (E.cid 4, .object "java/lang/Object") rfl).2
  refine ⟨_, hP q0 _ he, ?_, ?_⟩
  · rfl
  · exact g4
theorem g_copyM (h : gO p s m args c cc nL own Ts E S0) {index a b n n0 n1 sp dp : Nat} {f g : Nat → Option Nat} (hlink : Cond.methodLink own index arraycopyName ∈ Ts) (hnat : Cond.native arraycopyName ∈ Ts) (hstat : Cond.static arraycopyName ∈ Ts) (hini : Cond.initialized "java/lang/System" ∈ Ts)
    (hw0 : wat E x b (eB E n0 f)) (hw : wsg E x a (eB E n1 g) (eB E n1 (va_cpy f g sp dp n)) y) (h4 : sp + n ≤ n0) (h5 : dp + n ≤ n1) (hb0 : n0 < 100000) (hb1 : n1 < 100000) (hel : ∀ i : Nat, i < n → ∀ q : Nat, f (sp + i) = some q → q ∈ x.PL ∧ x.PK q = true)
    (hfr : 1 ≤ R.frames) (hlo : (st.map fun v => v.category).sum + (nativeFrameWords "java/lang/System" "arraycopy" 5 + 11) ≤ R.locals) (hd : decode cc pc = .ok (.invokestatic index, 3)) (kk : G p l e R s m args below meth c Q E S0 nL cs sl y (pc + 3) lv st) : G p l e R s m args below meth c Q E S0 nL cs sl x pc lv (.int (nI n) :: .int (nI dp) :: .ref a :: .int (nI sp) :: .ref b :: st) := fun H locs ls hP hD hS hl => by
  obtain ⟨q1, he1, hset⟩ := hw _ hD
  obtain ⟨q0, he0⟩ := hw0
  have c1 : (nI sp).toNatClampNeg = sp := nI_clamp (by omega)
  have c2 : (nI dp).toNatClampNeg = dp := nI_clamp (by omega)
  have c3 : (nI n).toNatClampNeg = n := nI_clamp (by omega)
  refine va_copyM h.1 h.2.1 (by rw [h.2.2.1]; exact hl.1.symm) h.2.2.2.1 (h.2.2.2.2.1 _ hlink) (h.2.2.2.2.1 _ hnat) (h.2.2.2.2.1 _ hstat) (h.2.2.2.2.1 _ hini) h.2.2.2.2.2.1 hP hD hS q0 q1 4 4 he0 he1 (E0 := "java/lang/Object") (E1 := "java/lang/Object") rfl rfl (nI_pos (by omega)) (nI_pos (by omega)) (nI_pos (by omega)) (by rw [c1, c3]; exact h4) (by rw [c2, c3]; exact h5) (fun i hi q hq => ?_) hfr hlo hd (fun H1 locs1 hP1 hD1 hS1 => ?_)
  · rw [c3] at hi
    rw [c1] at hq
    obtain ⟨hm, hk⟩ := hel i hi q hq
    obtain ⟨qk, hv⟩ := wat_Ms E x hm hk
    exact va_rAny h.2.2.2.2.2.1 hP hv (r := (RX2, TX2, 7)) rfl (vb_asgC h.2.2.2.2.2.2.2.2.2.2.2.2.2.1)
  · rw [c1, c2, c3, show (a, (Sum.inl (E.cid 4, n1, .inr (.inr (.inr (.inr (va_cpy f g sp dp n))))) : va_E)) = (a, eB E n1 (va_cpy f g sp dp n)) from rfl, hset] at hP1 hD1
    exact kk H1 locs1 ls hP1 hD1 hS1 hl
theorem g_callI (h : gO p s m args c cc nL own Ts E S0) {ym : MethodName} {bytes : ByteArray} {maxL index mc ms b : Nat} {ws ws' : List Cond} {rm : Room} {As rest : List Value} {post : Option Value → St → Prop} (n : Nat) (hM : Ct l ym ws rm E (.ref b :: As) x post mc ms) (hst : st = As.reverse ++ .ref b :: rest) (hG : GoodIn Ts ws) (hw : ws = Cond.code ym bytes maxL none :: ws') (hrc : rm.cells = mc) (hrs : rm.slots = ms) (hn : As.length = n)
    (hini : Cond.initialized ym.cls ∈ Ts) (hlink : Cond.methodLink own index ym ∈ Ts) (hinst : Cond.instanceMethod ym ∈ Ts) (hy1 : ym.name = "<init>")
    (hdd : ym.cls ≠ "java/lang/invoke/MethodHandle" ∧ ym.cls ≠ "java/lang/invoke/VarHandle" ∧ (parseMethodDescriptor ym.desc).map (fun d => d.parameters.length) = some n) (hR : rm.frames + 1 ≤ R.frames ∧ 8 + (maxL + 11) + rm.locals ≤ R.locals)
    (hd : decode cc pc = .ok (.invokespecial index, 3)) (hf : cs + mc ≤ R.cells ∧ sl + ms ≤ R.slots) (hcat : (rest.map fun v => v.category).sum ≤ 8)
    (kk : ∀ (v : Option Value) (y : St), post v y → G p l e R s m args below meth c Q E S0 nL (cs + mc) (sl + ms) y (pc + 3) lv (v.toList ++ rest)) : G p l e R s m args below meth c Q E S0 nL cs sl x pc lv st := fun H locs ls hP hD hS hl =>
  g_run (va_runI (As := As) (rest := rest) ⟨h.1, h.2.1, h.2.2.1, h.2.2.2.1, h.2.2.2.2.1⟩ (hM H.size) (cwI n h.2.2.2.2.1 hG hw hrc hrs (h.2.2.2.2.1 _ hini) (h.2.2.2.2.1 _ hlink) (h.2.2.2.2.1 _ hinst) hy1 hdd hR) ⟨gPc_blind, fun U hU hW => gPre h hP hD hS U hU hW⟩ rfl hn hl.1 hst (lv_room hcat) hd hf) hD hS hl kk
theorem g_getS (h : gO p s m args c cc nL own Ts E S0) {ref C : String} {T : u_T} {N ci index a : Nat} {fs : List Value} {v : Value} (k : Nat) (hw : wat E x a (.inr (ci, fs))) (hc : vwCl[ci]? = some (C, T, N)) (hin : ∀ w ∈ u_ws C T N, w ∈ Ts) (hk : k < N) (hlink : Cond.fieldLink own index ref (T k).2.1 (T k).2.2.1 ∈ Ts) (hsame : Cond.sameField ref (T k).1 (T k).2.1 (T k).2.2.1 ∈ Ts) (hv : fs[k]? = some v) (hd : decode cc pc = .ok (.getfield index, 3))
    (kk : G p l e R s m args below meth c Q E S0 nL cs sl x (pc + 3) lv (v :: st)) : G p l e R s m args below meth c Q E S0 nL cs sl x pc lv (.ref a :: st) := fun H locs ls hP hD hS hl => by
  obtain ⟨q0, he⟩ := hw
  exact va_get h.1 h.2.1 h.2.2.2.2.1 hin h.2.2.2.1 h.2.2.2.2.2.1 hP q0 he hc k hk (h.2.2.2.2.1 _ hlink) (fun x9 h9 => u_same (h.2.2.2.2.1 _ hsame) x9 h9) hv hd (kk H locs ls hP hD hS hl)
theorem g_putS (h : gO p s m args c cc nL own Ts E S0) {ref C : String} {T : u_T} {N ci index a : Nat} {fs : List Value} {v : Value} {ty : FieldType} (k : Nat) (ty0 : Nat → FieldType) (hw : wsg E x a (.inr (ci, fs)) (.inr (ci, fs.set k v)) y) (hc : vwCl[ci]? = some (C, T, N)) (hin : ∀ w ∈ u_ws C T N, w ∈ Ts) (hty : ∀ k, k < N → parseFieldDescriptor (T k).2.2.1 = some (ty0 k)) (hnm : ∀ a, a < N → ∀ b, b < N → a ≠ b → (T a).2.1 ≠ (T b).2.1) (hk : k < N) (hlink : Cond.fieldLink own index ref (T k).2.1 (T k).2.2.1 ∈ Ts) (hsame : Cond.sameField ref (T k).1 (T k).2.1 (T k).2.2.1 ∈ Ts) (hfin : (T k).2.2.2 = false) (hd1 : ty0 k = ty) (hn : narrow ty v = v) (hfit : fits ty v = true) (hlen : k < fs.length) (hd : decode cc pc = .ok (.putfield index, 3))
    (kk : G p l e R s m args below meth c Q E S0 nL cs sl y (pc + 3) lv st) : G p l e R s m args below meth c Q E S0 nL cs sl x pc lv (v :: .ref a :: st) := fun H locs ls hP hD hS hl => by
  obtain ⟨q0, he, hset⟩ := hw _ hD
  refine va_put h.1 h.2.1 h.2.2.2.2.1 hin ty0 hty hnm h.2.2.2.1 h.2.2.2.2.2.1 hP hD hS q0 he hc k hk (h.2.2.2.2.1 _ hlink) (fun x9 h9 => u_same (h.2.2.2.2.1 _ hsame) x9 h9) hfin (by rw [hty k hk, hd1]) hn hfit hlen hd (fun H1 locs1 hP1 hD1 hS1 => ?_)
  rw [hset] at hP1 hD1
  exact kk H1 locs1 ls hP1 hD1 hS1 hl
theorem g_putF (h : gO p s m args c cc nL own Ts E S0) {ref C : String} {T : u_T} {N ci index a : Nat} {fs : List Value} {v : Value} {ty : FieldType} (k : Nat) (ty0 : Nat → FieldType) (hw : wsg E x a (.inr (ci, fs)) (.inr (ci, fs.set k v)) y) (hc : vwCl[ci]? = some (C, T, N)) (hin : ∀ w ∈ u_ws C T N, w ∈ Ts) (hty : ∀ k, k < N → parseFieldDescriptor (T k).2.2.1 = some (ty0 k)) (hnm : ∀ a, a < N → ∀ b, b < N → a ≠ b → (T a).2.1 ≠ (T b).2.1) (hk : k < N) (hlink : Cond.fieldLink own index ref (T k).2.1 (T k).2.2.1 ∈ Ts) (hsame : ref = (T k).1) (hfin : (T k).2.2.2 = true) (hinit : meth.name = "<init>") (hdecl : (T k).1 = own) (hd1 : ty0 k = ty) (hn : narrow ty v = v) (hfit : fits ty v = true) (hlen : k < fs.length) (hd : decode cc pc = .ok (.putfield index, 3))
    (kk : G p l e R s m args below meth c Q E S0 nL cs sl y (pc + 3) lv st) : G p l e R s m args below meth c Q E S0 nL cs sl x pc lv (v :: .ref a :: st) := fun H locs ls hP hD hS hl => by
  obtain ⟨q0, he, hset⟩ := hw _ hD
  refine va_putF h.1 h.2.1 h.2.2.2.2.1 hin ty0 hty hnm h.2.2.2.1 h.2.2.2.2.2.1 hP hD hS q0 he hc k hk (h.2.2.2.2.1 _ hlink) (fun _ h9 => by rw [hsame]; exact h9) hfin hinit hdecl (by rw [hty k hk, hd1]) hn hfit hlen hd (fun H1 locs1 hP1 hD1 hS1 => ?_)
  rw [hset] at hP1 hD1
  exact kk H1 locs1 ls hP1 hD1 hS1 hl
end GL
