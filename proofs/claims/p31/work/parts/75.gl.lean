/-! ===== a world as a list, for the constructors ===== -/
/-- the two private constructors that a nest mate calls -/
def gN (U : State) : Prop := va_Nw (.methodLinkNest RX5 9 yX3_init RX5) U ∧ va_Nw (.methodLinkNest RX0 11 yX4_init RX5) U ∧ va_AO RX0 U ∧ va_AO RX1 U
theorem gN.warm {u U : State} (hW : u.WarmedH U.vm) (h : gN u) : gN U := ⟨va_Nw.warmM hW h.1, va_Nw.warmM hW h.2.1, h.2.2.1.moved hW.alike, h.2.2.2.moved hW.alike⟩
theorem gN.same {u U : State} (hv : U.vm = u.vm) (h : gN u) : gN U := gN.warm (by rw [hv]; exact State.WarmedH.refl u) h
def lPc (E : gE) (av : List Value) (w : va_W) (sz : Nat) : Array Value → State → Prop := va_Pc av (fun U => U.heap.size = sz ∧ va_P E.D vwCl w U.heap ∧ va_K E.D vwCl (gtys E) U ∧ va_D (fun _ => True) w ∧ gZ E (va_A w sz) U U.heap ∧ gN U)
def lQc (E : gE) (w : va_W) (sz : Nat) (post : Option Value → va_W → Prop) : Array Value → State → Outcome → State → Prop := fun _ st oc t => (∃ (v : Option Value) (w' : va_W), oc = .returned v ∧ post v w' ∧ va_P E.D vwCl w' t.heap ∧ va_D (va_A w sz) w') ∧ va_F (va_A w sz) st t
/-- a constructor's contract over a world that is a list -/
def CL (l : Launch) (y : MethodName) (ws : List Cond) (rm : Room) (E : gE) (av : List Value) (w : va_W) (post : Option Value → va_W → Prop) (mc ms : Nat) : Prop := ∀ sz : Nat, Met l y ws rm (lPc E av w sz) (lQc E w sz post) mc ms (va_A w sz)
theorem lPc_blind {E : gE} {av : List Value} {w : va_W} {sz : Nat} : FrameBlind (lPc E av w sz) := by
  intro a U g mk h
  obtain ⟨h1, h2, h3, h4, h5, h6, h7⟩ := h
  exact ⟨h1, h2, h3, va_K.moved (u := U) (U := U.calling g mk a) (Vm.Alike.refl U.vm) h4, h5, gZ.same (u := U) (U := U.calling g mk a) rfl h6, gN.same (u := U) (U := U.calling g mk a) rfl h7⟩
theorem lx_at {X L : va_W} {j : Nat} {q : Nat × va_E} (h : L[j]? = some q) : (X ++ L)[X.length + j]? = some q := by
  rw [List.getElem?_append_right (by omega), Nat.add_sub_cancel_left]
  exact h
theorem lx_set {X L : va_W} {j : Nat} {q : Nat × va_E} : (X ++ L).set (X.length + j) q = X ++ L.set j q := by
  rw [List.set_append_right _ _ (by omega), Nat.add_sub_cancel_left]
section GLW
variable {p : Program} {l : Launch} {e : Env} {R : Room} {s : State} {m : MethodId} {args : Array Value} {below : List Frame} {meth : Method} {c : Code} {Q : State → Prop} {E : gE} {A : Nat → Prop} {w w' X L L' : va_W} {nL cs sl : Nat} {cc : ByteArray} {own : String} {Ts : List Cond} {pc : Nat} {lv lv' : List (Nat × Value)} {st : List Value}
def GL (p : Program) (l : Launch) (e : Env) (R : Room) (s : State) (m : MethodId) (args : Array Value) (below : List Frame) (meth : Method) (c : Code) (Q : State → Prop) (E : gE) (A : Nat → Prop) (nL cs sl : Nat) (w : va_W) (pc : Nat) (lv : List (Nat × Value)) (st : List Value) : Prop :=
  ∀ (H : Heap) (locs : List Loc) (ls : Array Slot), va_P E.D vwCl w H → va_D A w → va_S A s.heap H locs → lv_has ls nL lv → W p l e R s m args below meth c H locs cs sl Q (F0 m pc ls st)
def lO (p : Program) (s : State) (m : MethodId) (args : Array Value) (c : Code) (cc : ByteArray) (nL : Nat) (own : String) (Ts : List Cond) (E : gE) (A : Nat → Prop) : Prop :=
  p.tables.exec = Jvm.exec ∧ c.code = cc ∧ c.maxLocals = nL ∧ s.vm.findClass own = some m.cls ∧ (∀ w ∈ Ts, w.before args s = true) ∧ va_K E.D vwCl (gtys E) s ∧ gZ E A s s.heap ∧ gN s ∧ ∀ q : Nat, s.heap.size ≤ q → A q
abbrev lQ (below : List Frame) (E : gE) (w : va_W) (s : State) (post : Option Value → va_W → Prop) (args : Array Value) (mc ms : Nat) : State → Prop := MQ below (lQc E w s.heap.size post) args s mc ms (va_A w s.heap.size)
theorem CL.of {y : MethodName} {ws ws' : List Cond} {rm : Room} {av : List Value} {post : Option Value → va_W → Prop} {mc ms : Nat} {ret : Option FieldType} (hy : plainName y.cls = true) (hw : ws = Cond.code y cc nL ret :: ws') (hlen : (lg_sl av).length ≤ nL)
    (body : ∀ (p : Program) (e : Env) (s : State) (m : MethodId) (args : Array Value) (below : List Frame) (meth : Method) (c : Code), lO p s m args c cc nL y.cls ws E (va_A w s.heap.size) → meth.sig.returnType = ret → meth.locks = false → meth.name = y.name → GL p l e rm s m args below meth c (lQ below E w s post args mc ms) E (va_A w s.heap.size) nL 0 0 w 0 (lv_args 0 av) []) : CL l y ws rm E av w post mc ms := by
  intro sz
  refine Met.ofW hy hw ?_
  intro p e s m args below meth c s₁ B hml hv
  obtain ⟨rfl, hsz, hP, hK, hD, hZ, hN⟩ := hv
  subst hsz
  have hown : s.vm.findClass y.cls = some m.cls := findClass_of_methodNamed B.named
  rw [lg_entry_eq]
  exact body p e s m _ below meth c ⟨B.exec, B.bytes, hml, hown, atoms_spec B.pre, hK, hZ, hN, fun q hq => Or.inr hq⟩ B.returns B.notSynchronized (name_of_methodNamed B.named B.method).1 s.heap [] _ hP hD.self va_S.rf (lv_entry av hlen)
theorem l_in (hA : ∀ q : Nat, s.heap.size ≤ q → A q) (hD : va_D A w) {H : Heap} {locs : List Loc} (hS : va_S A s.heap H locs) : ∀ q, va_A w H.size q → A q := by
  intro q h
  rcases h with ⟨k, e, h⟩ | h
  · exact hD.2 k (q, e) h
  · exact hA q (Nat.le_trans hS.1 h)
theorem l_run {mc ms : Nat} {rest : List Value} {post : Option Value → va_W → Prop} {a : Array Value} {H : Heap} {locs : List Loc} {ls : Array Slot} (hr : va_Run p l e R s m args below meth c H locs cs sl mc ms (F0 m pc ls st) rest (lQc E w H.size post a) (va_A w H.size))
    (hA : ∀ q : Nat, s.heap.size ≤ q → A q) (hD : va_D A w) (hS : va_S A s.heap H locs) (hl : lv_has ls nL lv)
    (kk : ∀ (v : Option Value) (w' : va_W), post v w' → GL p l e R s m args below meth c Q E A nL (cs + mc) (sl + ms) w' (pc + 3) lv (v.toList ++ rest)) : W p l e R s m args below meth c H locs cs sl Q (F0 m pc ls st) := by
  intro T hT X
  obtain ⟨v, st₀, t, T', L, h0, X', hL, e1, e2, ⟨⟨v', y, hv, hp, hP1, hD1⟩, hz, hk⟩, stp⟩ := hr T hT X
  cases hv
  have hA := l_in hA hD hS
  rw [h0] at hz hk
  obtain ⟨t2, a1, b1⟩ := kk v y hp T'.heap (locs ++ L) ls (by rw [e1]; exact hP1) (hD1.weaken (fun _ q _ h => hA q.1 h))
    ⟨Nat.le_trans hS.1 (by rw [e1]; exact hz), fun q h1 h2 => by rw [e1, hk q (Nat.lt_of_lt_of_le h1 hS.1) (fun z => h2 (hA q z))]; exact hS.2.1 q h1 h2, fun q hq => by
      rcases List.mem_append.mp hq with h | h
      · exact hS.2.2 q h
      · exact hA _ (hL q h)⟩ hl T' rfl X'
  exact ⟨t2, stp t2 a1, b1⟩
theorem lPre (h : lO p s m args c cc nL own Ts E A) {H : Heap} {locs : List Loc} {av : List Value} (hP : va_P E.D vwCl w H) (hD : va_D A w) (hS : va_S A s.heap H locs) (U : State) (hU : U.heap = H) (hW : s.WarmedH U.vm) : lPc E av w H.size av.toArray U := by
  refine ⟨rfl, by rw [hU], by rw [hU]; exact hP, va_K.moved hW.alike h.2.2.2.2.2.1, hD.weaken (fun _ _ _ _ => trivial), ?_, gN.warm hW h.2.2.2.2.2.2.2.1⟩
  rw [hU]
  exact gZ.warm hW ((h.2.2.2.2.2.2.1.kept hS.2.1).narrow (l_in h.2.2.2.2.2.2.2.2 hD hS))
theorem l_w (hw : w = w') (kk : GL p l e R s m args below meth c Q E A nL cs sl w' pc lv st) : GL p l e R s m args below meth c Q E A nL cs sl w pc lv st := hw ▸ kk
theorem l_wide {k n : Nat} (h1 : cs ≤ k) (h2 : sl ≤ n) (kk : GL p l e R s m args below meth c Q E A nL k n w pc lv st) : GL p l e R s m args below meth c Q E A nL cs sl w pc lv st := fun H locs ls hP hD hS hl => W.widen h1 h2 (kk H locs ls hP hD hS hl)
theorem l_iconst (h : lO p s m args c cc nL own Ts E A) {n : Int} {v : Int32} (hd : decode cc pc = .ok (.iconst n, 1)) (hv : Int32.ofInt n = v) (kk : GL p l e R s m args below meth c Q E A nL cs sl w (pc + 1) lv (.int v :: st)) : GL p l e R s m args below meth c Q E A nL cs sl w pc lv st := fun H locs ls hP hD hS hl => lv_iconst h.1 h.2.1 hd hv (kk H locs ls hP hD hS hl)
theorem l_bipush (h : lO p s m args c cc nL own Ts E A) {n : Int} {v : Int32} (hd : decode cc pc = .ok (.bipush n, 2)) (hv : (Int8.ofInt n).toInt32 = v) (kk : GL p l e R s m args below meth c Q E A nL cs sl w (pc + 2) lv (.int v :: st)) : GL p l e R s m args below meth c Q E A nL cs sl w pc lv st := fun H locs ls hP hD hS hl => lv_bipush h.1 h.2.1 hd hv (kk H locs ls hP hD hS hl)
theorem l_sipush (h : lO p s m args c cc nL own Ts E A) {n : Int} {v : Int32} (hd : decode cc pc = .ok (.sipush n, 3)) (hv : (Int16.ofInt n).toInt32 = v) (kk : GL p l e R s m args below meth c Q E A nL cs sl w (pc + 3) lv (.int v :: st)) : GL p l e R s m args below meth c Q E A nL cs sl w pc lv st := fun H locs ls hP hD hS hl => lv_sipush h.1 h.2.1 hd hv (kk H locs ls hP hD hS hl)
theorem l_iload_n (h : lO p s m args c cc nL own Ts E A) (j : Nat) {k : Fin 4} {i : Nat} {v : Int32} (hd : decode cc pc = .ok (.iload_n k, 1)) (hi : (k : Nat) = i) (hj : lv[j]? = some (i, .int v)) (kk : GL p l e R s m args below meth c Q E A nL cs sl w (pc + 1) lv (.int v :: st)) : GL p l e R s m args below meth c Q E A nL cs sl w pc lv st := fun H locs ls hP hD hS hl => lv_iload_n h.1 h.2.1 hd hi (lv_at hl j hj) (kk H locs ls hP hD hS hl)
theorem l_aload_n (h : lO p s m args c cc nL own Ts E A) (j : Nat) {k : Fin 4} {i : Nat} {v : Nat} (hd : decode cc pc = .ok (.aload_n k, 1)) (hi : (k : Nat) = i) (hj : lv[j]? = some (i, .ref v)) (kk : GL p l e R s m args below meth c Q E A nL cs sl w (pc + 1) lv (.ref v :: st)) : GL p l e R s m args below meth c Q E A nL cs sl w pc lv st := fun H locs ls hP hD hS hl => lv_aload_n h.1 h.2.1 hd hi (lv_at hl j hj) (kk H locs ls hP hD hS hl)
theorem l_istore_n (h : lO p s m args c cc nL own Ts E A) (ks : List Nat) {k : Fin 4} {i : Nat} {v : Int32} (hd : decode cc pc = .ok (.istore_n k, 1)) (hi : (k : Nat) = i) (hn : i < nL) (hks : lv_pick ((i, Value.int v) :: lv.filter (fun q => !(q.1 == i) && !(q.1 + 1 == i && q.2.category == 2))) ks = lv') (kk : GL p l e R s m args below meth c Q E A nL cs sl w (pc + 1) lv' st) : GL p l e R s m args below meth c Q E A nL cs sl w pc lv (.int v :: st) := fun H locs ls hP hD hS hl => lv_istore_n h.1 h.2.1 hd hi hl hn rfl (fun ls hl1 => kk H locs ls hP hD hS (lv_sub hl1 ks hks))
theorem l_istore (h : lO p s m args c cc nL own Ts E A) (ks : List Nat) {i : Nat} {v : Int32} (hd : decode cc pc = .ok (.istore i, 2)) (hn : i < nL) (hks : lv_pick ((i, Value.int v) :: lv.filter (fun q => !(q.1 == i) && !(q.1 + 1 == i && q.2.category == 2))) ks = lv') (kk : GL p l e R s m args below meth c Q E A nL cs sl w (pc + 2) lv' st) : GL p l e R s m args below meth c Q E A nL cs sl w pc lv (.int v :: st) := fun H locs ls hP hD hS hl => lv_istore h.1 h.2.1 hd hl hn rfl (fun ls hl1 => kk H locs ls hP hD hS (lv_sub hl1 ks hks))
theorem l_astore_n (h : lO p s m args c cc nL own Ts E A) (ks : List Nat) {k : Fin 4} {i : Nat} {v : Nat} (hd : decode cc pc = .ok (.astore_n k, 1)) (hi : (k : Nat) = i) (hn : i < nL) (hks : lv_pick ((i, Value.ref v) :: lv.filter (fun q => !(q.1 == i) && !(q.1 + 1 == i && q.2.category == 2))) ks = lv') (kk : GL p l e R s m args below meth c Q E A nL cs sl w (pc + 1) lv' st) : GL p l e R s m args below meth c Q E A nL cs sl w pc lv (.ref v :: st) := fun H locs ls hP hD hS hl => lv_astore_n h.1 h.2.1 hd hi hl hn rfl (fun ls hl1 => kk H locs ls hP hD hS (lv_sub hl1 ks hks))
theorem l_astore (h : lO p s m args c cc nL own Ts E A) (ks : List Nat) {i : Nat} {v : Nat} (hd : decode cc pc = .ok (.astore i, 2)) (hn : i < nL) (hks : lv_pick ((i, Value.ref v) :: lv.filter (fun q => !(q.1 == i) && !(q.1 + 1 == i && q.2.category == 2))) ks = lv') (kk : GL p l e R s m args below meth c Q E A nL cs sl w (pc + 2) lv' st) : GL p l e R s m args below meth c Q E A nL cs sl w pc lv (.ref v :: st) := fun H locs ls hP hD hS hl => lv_astore h.1 h.2.1 hd hl hn rfl (fun ls hl1 => kk H locs ls hP hD hS (lv_sub hl1 ks hks))
theorem l_iinc (h : lO p s m args c cc nL own Ts E A) (j : Nat) (ks : List Nat) {i : Nat} {n : Int} {a v : Int32} (hd : decode cc pc = .ok (.iinc i n, 3)) (hj : lv[j]? = some (i, .int a)) (hv : a + Int32.ofInt n = v) (hn : i < nL) (hks : lv_pick ((i, Value.int v) :: lv.filter (fun q => !(q.1 == i) && !(q.1 + 1 == i && q.2.category == 2))) ks = lv') (kk : GL p l e R s m args below meth c Q E A nL cs sl w (pc + 3) lv' st) : GL p l e R s m args below meth c Q E A nL cs sl w pc lv st := fun H locs ls hP hD hS hl => lv_iinc h.1 h.2.1 hd hl hj hv hn rfl (fun ls hl1 => kk H locs ls hP hD hS (lv_sub hl1 ks hks))
theorem l_dup (h : lO p s m args c cc nL own Ts E A) {va : Value} (hd : decode cc pc = .ok (.dup, 1)) (hc : va.category = 1) (kk : GL p l e R s m args below meth c Q E A nL cs sl w (pc + 1) lv (va :: va :: st)) : GL p l e R s m args below meth c Q E A nL cs sl w pc lv (va :: st) := fun H locs ls hP hD hS hl => lv_dup h.1 h.2.1 hd hc (kk H locs ls hP hD hS hl)
theorem l_goto (h : lO p s m args c cc nL own Ts E A) {off : Int} (tgt : Nat) (hd : decode cc pc = .ok (.goto off, 3)) (ht : (pc : Int) + off = (tgt : Int)) (kk : GL p l e R s m args below meth c Q E A nL cs sl w tgt lv st) : GL p l e R s m args below meth c Q E A nL cs sl w pc lv st := fun H locs ls hP hD hS hl => lv_goto h.1 h.2.1 hd ht (kk H locs ls hP hD hS hl)
theorem l_icmp_geN (h : lO p s m args c cc nL own Ts E A) {a b : Nat} {off : Int} (tgt : Nat) (hd : decode cc pc = .ok (.if_icmp .ge off, 3)) (ht : (pc : Int) + off = (tgt : Int)) (ha : a < 2 ^ 31) (hb : b < 2 ^ 31) (kt : b ≤ a → GL p l e R s m args below meth c Q E A nL cs sl w tgt lv st) (kf : ¬ (b ≤ a) → GL p l e R s m args below meth c Q E A nL cs sl w (pc + 3) lv st) : GL p l e R s m args below meth c Q E A nL cs sl w pc lv (.int (nI b) :: .int (nI a) :: st) := fun H locs ls hP hD hS hl => lv_icmp_ge h.1 h.2.1 hd ht (fun z => kt ((nI_leI hb ha).mp z) H locs ls hP hD hS hl) (fun z => kf (fun q => z ((nI_leI hb ha).mpr q)) H locs ls hP hD hS hl)
theorem l_get (h : lO p s m args c cc nL own Ts E A) {ref C : String} {T : u_T} {N ci index a : Nat} {fs : List Value} {v : Value} (j k : Nat) (hw : L[j]? = some (a, .inr (ci, fs))) (hc : vwCl[ci]? = some (C, T, N)) (hin : ∀ w ∈ u_ws C T N, w ∈ Ts) (hk : k < N) (hlink : Cond.fieldLink own index ref (T k).2.1 (T k).2.2.1 ∈ Ts) (hsame : ref = (T k).1) (hv : fs[k]? = some v) (hd : decode cc pc = .ok (.getfield index, 3))
    (kk : GL p l e R s m args below meth c Q E A nL cs sl (X ++ L) (pc + 3) lv (v :: st)) : GL p l e R s m args below meth c Q E A nL cs sl (X ++ L) pc lv (.ref a :: st) := fun H locs ls hP hD hS hl =>
  va_get h.1 h.2.1 h.2.2.2.2.1 hin h.2.2.2.1 h.2.2.2.2.2.1 hP (X.length + j) (lx_at hw) hc k hk (h.2.2.2.2.1 _ hlink) (fun _ h9 => by rw [hsame]; exact h9) hv hd (kk H locs ls hP hD hS hl)
theorem l_put (h : lO p s m args c cc nL own Ts E A) {ref C : String} {T : u_T} {N ci index a : Nat} {fs : List Value} {v : Value} {ty : FieldType} (j k : Nat) (ty0 : Nat → FieldType) (hw : L[j]? = some (a, .inr (ci, fs))) (hset : L.set j (a, .inr (ci, fs.set k v)) = L') (hc : vwCl[ci]? = some (C, T, N)) (hin : ∀ w ∈ u_ws C T N, w ∈ Ts) (hty : ∀ k, k < N → parseFieldDescriptor (T k).2.2.1 = some (ty0 k)) (hnm : ∀ a, a < N → ∀ b, b < N → a ≠ b → (T a).2.1 ≠ (T b).2.1) (hk : k < N) (hlink : Cond.fieldLink own index ref (T k).2.1 (T k).2.2.1 ∈ Ts) (hsame : ref = (T k).1) (hfin : (T k).2.2.2 = false) (hd1 : ty0 k = ty) (hn : narrow ty v = v) (hfit : fits ty v = true) (hlen : k < fs.length) (hd : decode cc pc = .ok (.putfield index, 3))
    (kk : GL p l e R s m args below meth c Q E A nL cs sl (X ++ L') (pc + 3) lv st) : GL p l e R s m args below meth c Q E A nL cs sl (X ++ L) pc lv (v :: .ref a :: st) := fun H locs ls hP hD hS hl => by
  refine va_put h.1 h.2.1 h.2.2.2.2.1 hin ty0 hty hnm h.2.2.2.1 h.2.2.2.2.2.1 hP hD hS (X.length + j) (lx_at hw) hc k hk (h.2.2.2.2.1 _ hlink) (fun _ h9 => by rw [hsame]; exact h9) hfin (by rw [hty k hk, hd1]) hn hfit hlen hd (fun H1 locs1 hP1 hD1 hS1 => ?_)
  rw [lx_set, hset] at hP1 hD1
  exact kk H1 locs1 ls hP1 hD1 hS1 hl
theorem l_putF (h : lO p s m args c cc nL own Ts E A) {ref C : String} {T : u_T} {N ci index a : Nat} {fs : List Value} {v : Value} {ty : FieldType} (j k : Nat) (ty0 : Nat → FieldType) (hw : L[j]? = some (a, .inr (ci, fs))) (hset : L.set j (a, .inr (ci, fs.set k v)) = L') (hc : vwCl[ci]? = some (C, T, N)) (hin : ∀ w ∈ u_ws C T N, w ∈ Ts) (hty : ∀ k, k < N → parseFieldDescriptor (T k).2.2.1 = some (ty0 k)) (hnm : ∀ a, a < N → ∀ b, b < N → a ≠ b → (T a).2.1 ≠ (T b).2.1) (hk : k < N) (hlink : Cond.fieldLink own index ref (T k).2.1 (T k).2.2.1 ∈ Ts) (hsame : ref = (T k).1) (hfin : (T k).2.2.2 = true) (hinit : meth.name = "<init>") (hdecl : (T k).1 = own) (hd1 : ty0 k = ty) (hn : narrow ty v = v) (hfit : fits ty v = true) (hlen : k < fs.length) (hd : decode cc pc = .ok (.putfield index, 3))
    (kk : GL p l e R s m args below meth c Q E A nL cs sl (X ++ L') (pc + 3) lv st) : GL p l e R s m args below meth c Q E A nL cs sl (X ++ L) pc lv (v :: .ref a :: st) := fun H locs ls hP hD hS hl => by
  refine va_putF h.1 h.2.1 h.2.2.2.2.1 hin ty0 hty hnm h.2.2.2.1 h.2.2.2.2.2.1 hP hD hS (X.length + j) (lx_at hw) hc k hk (h.2.2.2.2.1 _ hlink) (fun _ h9 => by rw [hsame]; exact h9) hfin hinit hdecl (by rw [hty k hk, hd1]) hn hfit hlen hd (fun H1 locs1 hP1 hD1 hS1 => ?_)
  rw [lx_set, hset] at hP1 hD1
  exact kk H1 locs1 ls hP1 hD1 hS1 hl
theorem l_iast (h : lO p s m args c cc nL own Ts E A) {a n i : Nat} {f : Nat → Int32} {v : Int32} (j : Nat) (hw : L[j]? = some (a, .inl (E.cid 0, n, .inl f))) (hset : L.set j (a, .inl (E.cid 0, n, .inl (upd f i v))) = L') (hi : i < n) (hn : n < 2 ^ 31) (hd : decode cc pc = .ok (.iastore, 1)) (kk : GL p l e R s m args below meth c Q E A nL cs sl (X ++ L') (pc + 1) lv st) : GL p l e R s m args below meth c Q E A nL cs sl (X ++ L) pc lv (.int v :: .int (nI i) :: .ref a :: st) := fun H locs ls hP hD hS hl => by
  refine va_iast h.1 h.2.1 h.2.2.2.2.2.1 hP hD hS (X.length + j) 0 (lx_at hw) rfl (vp_in_nI hi hn) hd (fun H1 locs1 hP1 hD1 hS1 => ?_)
  rw [nI_clamp (by omega), lx_set, hset] at hP1 hD1
  exact kk H1 locs1 ls hP1 hD1 hS1 hl
theorem l_astq (h : lO p s m args c cc nL own Ts E A) {a n i v ci : Nat} {cA : ClassId} {r : vw_C} {vs : List Value} {f : Nat → Option Nat} (j t0 jk : Nat) (hw : L[j]? = some (a, .inl (cA, n, .inr (.inr (.inr (.inr f)))))) (ht : (gtys E)[t0]? = some (cA, .object r.1)) (hv : L[jk]? = some (v, .inr (ci, vs))) (hc : vwCl[ci]? = some r) (hset : L.set j (a, .inl (cA, n, .inr (.inr (.inr (.inr (va_up f i (some v))))))) = L') (hi : i < n) (hn : n < 2 ^ 31) (hd : decode cc pc = .ok (.aastore, 1)) (kk : GL p l e R s m args below meth c Q E A nL cs sl (X ++ L') (pc + 1) lv st) : GL p l e R s m args below meth c Q E A nL cs sl (X ++ L) pc lv (.ref v :: .int (nI i) :: .ref a :: st) := fun H locs ls hP hD hS hl => by
  refine va_astq h.1 h.2.1 h.2.2.2.2.2.1 hP hD hS (X.length + j) t0 (X.length + jk) ci (lx_at hw) ht (lx_at hv) hc (vp_in_nI hi hn) hd (fun H1 locs1 hP1 hD1 hS1 => ?_)
  rw [nI_clamp (by omega), lx_set, hset] at hP1 hD1
  exact kk H1 locs1 ls hP1 hD1 hS1 hl
theorem l_new (h : lO p s m args c cc nL own Ts E A) {C : String} {T : u_T} {N ci index : Nat} {fs : List Value} (ty0 : Nat → FieldType) (hc : vwCl[ci]? = some (C, T, N)) (hin : ∀ w ∈ u_ws C T N, w ∈ Ts) (hty : ∀ k, k < N → parseFieldDescriptor (T k).2.2.1 = some (ty0 k)) (hlink : Cond.classLink own index C ∈ Ts) (hinst : Cond.instantiable C N ∈ Ts) (hini : Cond.initialized C ∈ Ts) (hfs : ∀ j, j < N → defaultValue (ty0 j) = vp_V fs j) (hcc : cs + 1 ≤ R.cells) (hs : sl + N ≤ R.slots) (hd : decode cc pc = .ok (.new index, 3))
    (kk : ∀ q : Nat, GL p l e R s m args below meth c Q E A nL (cs + 1) (sl + N) (w ++ [(q, .inr (ci, fs))]) (pc + 3) lv (.ref q :: st)) : GL p l e R s m args below meth c Q E A nL cs sl w pc lv st := fun H locs ls hP hD hS hl =>
  va_new h.1 h.2.1 h.2.2.2.2.1 hin ty0 hty h.2.2.2.1 (h.2.2.2.2.1 _ hlink) (h.2.2.2.2.1 _ hinst) (h.2.2.2.2.1 _ hini) h.2.2.2.2.2.1 hP hD hS h.2.2.2.2.2.2.2.2 hc hfs hcc hs hd (fun q H1 hP1 hD1 hS1 => kk q H1 locs ls hP1 hD1 hS1 hl)
theorem l_newI (h : lO p s m args c cc nL own Ts E A) {n : Nat} {v : Int32} (hv : v = nI n) (harr : Cond.arrayClass .int ∈ Ts) (hn : n < 100000) (hcc : cs + 1 ≤ R.cells) (hs : sl + n ≤ R.slots) (hd : decode cc pc = .ok (.newarray .int, 2))
    (kk : ∀ q : Nat, GL p l e R s m args below meth c Q E A nL (cs + 1) (sl + n) (w ++ [(q, .inl (E.cid 0, n, .inl (fun _ => 0)))]) (pc + 2) lv (.ref q :: st)) : GL p l e R s m args below meth c Q E A nL cs sl w pc lv (.int v :: st) := fun H locs ls hP hD hS hl => by
  subst hv
  refine va_newa (atype := .int) (ty := .int) (a0 := (n, .inl (fun _ => 0))) h.1 h.2.1 (h.2.2.2.2.1 _ harr) rfl h.2.2.2.2.2.1 hP hD hS h.2.2.2.2.2.2.2.2 (fun _ => rfl) (nI_pos (by omega)) (nI_clamp (by omega)) (by show n * 4 ≤ _; omega) hcc hs hd (fun q cA H1 hK1 hP1 hD1 hS1 => ?_)
  have e : cA = E.cid 0 := Option.some.inj (((hK1.2 5 (cA, .int) rfl).2 : s.vm.findClass _ = some cA).symm.trans ((hK1.2 0 (E.cid 0, .int) rfl).2 : s.vm.findClass _ = some (E.cid 0)))
  subst e
  exact kk q H1 locs ls hP1 hD1 hS1 hl
theorem l_newZ (h : lO p s m args c cc nL own Ts E A) {n : Nat} {v : Int32} (hv : v = nI n) (harr : Cond.arrayClass .boolean ∈ Ts) (hn : n < 100000) (hcc : cs + 1 ≤ R.cells) (hs : sl + n ≤ R.slots) (hd : decode cc pc = .ok (.newarray .boolean, 2))
    (kk : ∀ q : Nat, GL p l e R s m args below meth c Q E A nL (cs + 1) (sl + n) (w ++ [(q, .inl (E.cid 1, n, .inl (fun _ => 0)))]) (pc + 2) lv (.ref q :: st)) : GL p l e R s m args below meth c Q E A nL cs sl w pc lv (.int v :: st) := fun H locs ls hP hD hS hl => by
  subst hv
  refine va_newa (atype := .boolean) (ty := .boolean) (a0 := (n, .inl (fun _ => 0))) h.1 h.2.1 (h.2.2.2.2.1 _ harr) rfl h.2.2.2.2.2.1 hP hD hS h.2.2.2.2.2.2.2.2 (fun _ => rfl) (nI_pos (by omega)) (nI_clamp (by omega)) (by show n * 1 ≤ _; omega) hcc hs hd (fun q cA H1 hK1 hP1 hD1 hS1 => ?_)
  have e : cA = E.cid 1 := Option.some.inj (((hK1.2 5 (cA, .boolean) rfl).2 : s.vm.findClass _ = some cA).symm.trans ((hK1.2 1 (E.cid 1, .boolean) rfl).2 : s.vm.findClass _ = some (E.cid 1)))
  subst e
  exact kk q H1 locs ls hP1 hD1 hS1 hl
theorem l_newq (h : lO p s m args c cc nL own Ts E A) {C : String} {index n : Nat} {v : Int32} (t0 : Nat) (hv : v = nI n) (ht : (gtys E)[t0]? = some (E.cid t0, .object C)) (hao : va_AO C s) (hlink : Cond.classLink own index C ∈ Ts) (hn : n < 100000) (hcc : cs + 1 ≤ R.cells) (hs : sl + n ≤ R.slots) (hd : decode cc pc = .ok (.anewarray index, 3))
    (kk : ∀ q : Nat, GL p l e R s m args below meth c Q E A nL (cs + 1) (sl + n) (w ++ [(q, .inl (E.cid t0, n, .inr (.inr (.inr (.inr (fun _ => none))))))]) (pc + 3) lv (.ref q :: st)) : GL p l e R s m args below meth c Q E A nL cs sl w pc lv (.int v :: st) := fun H locs ls hP hD hS hl => by
  subst hv
  refine va_newq h.1 h.2.1 h.2.2.2.1 (h.2.2.2.2.1 _ hlink) hao h.2.2.2.2.2.1 hP hD hS h.2.2.2.2.2.2.2.2 (nI_pos (by omega)) (nI_clamp (by omega)) (by omega) hcc hs hd (fun q cA H1 hK1 hP1 hD1 hS1 => ?_)
  have e : cA = E.cid t0 := by
    have ht1 : (gtys E ++ [(cA, .object C)])[t0]? = some (E.cid t0, .object C) := by
      rw [List.getElem?_append_left (List.getElem?_eq_some_iff.mp ht).1]
      exact ht
    obtain ⟨k1, c1, g1, g2, g3, g4⟩ := (hK1.2 t0 (E.cid t0, .object C) ht1).2
    obtain ⟨k2, c2, f1, f2, f3, f4⟩ := (hK1.2 5 (cA, .object C) rfl).2
    exact Option.some.inj (f4.symm.trans g4)
  subst e
  exact kk q H1 locs ls hP1 hD1 hS1 hl
theorem l_getsZ (h : lO p s m args c cc nL own Ts E A) {index : Nat} (hlink : Cond.fieldLink own index "java/util/ArrayList" "DEFAULTCAPACITY_EMPTY_ELEMENTDATA" "[Ljava/lang/Object;" ∈ Ts) (hd : decode cc pc = .ok (.getstatic index, 3)) (kk : GL p l e R s m args below meth c Q E A nL cs sl w (pc + 3) lv (.ref E.z :: st)) : GL p l e R s m args below meth c Q E A nL cs sl w pc lv st := fun H locs ls hP hD hS hl =>
  va_gets h.1 h.2.1 h.2.2.2.2.2.2.1.1 hS h.2.2.2.1 (h.2.2.2.2.1 _ hlink) (fun _ h9 => h9) hd (kk H locs ls hP hD hS hl)
theorem l_objInit (h : lO p s m args c cc nL own Ts E A) {idx a : Nat} (hlink : Cond.methodLink own idx objectInit ∈ Ts) (hinst : Cond.instanceMethod objectInit ∈ Ts) (hcode : Cond.code objectInit ⟨#[0xb1]⟩ 1 none ∈ Ts) (hfr : 1 ≤ R.frames) (hlo : (st.map fun v => v.category).sum + 12 ≤ R.locals) (hd : decode cc pc = .ok (.invokespecial idx, 3)) (kk : GL p l e R s m args below meth c Q E A nL cs sl w (pc + 3) lv st) : GL p l e R s m args below meth c Q E A nL cs sl w pc lv (.ref a :: st) := fun H locs ls hP hD hS hl =>
  W.objInit h.1 h.2.1 h.2.2.2.1 (h.2.2.2.2.1 _ hlink) (h.2.2.2.2.1 _ hinst) (h.2.2.2.2.1 _ hcode) rfl (by rw [h.2.2.1]; exact hl.1) rfl hd hfr (by show 2 * 0 + _ + 12 ≤ _; omega) (kk H locs ls hP hD hS hl)
theorem l_callI (h : lO p s m args c cc nL own Ts E A) {ym : MethodName} {bytes : ByteArray} {maxL index mc ms b : Nat} {ws ws' : List Cond} {rm : Room} {As rest : List Value} {post : Option Value → va_W → Prop} (n : Nat) (hM : CL l ym ws rm E (.ref b :: As) w post mc ms) (hst : st = As.reverse ++ .ref b :: rest) (hG : GoodIn Ts ws) (hw : ws = Cond.code ym bytes maxL none :: ws') (hrc : rm.cells = mc) (hrs : rm.slots = ms) (hn : As.length = n)
    (hini : Cond.initialized ym.cls ∈ Ts) (hlink : Cond.methodLink own index ym ∈ Ts) (hinst : Cond.instanceMethod ym ∈ Ts) (hy1 : ym.name = "<init>")
    (hdd : ym.cls ≠ "java/lang/invoke/MethodHandle" ∧ ym.cls ≠ "java/lang/invoke/VarHandle" ∧ (parseMethodDescriptor ym.desc).map (fun d => d.parameters.length) = some n) (hR : rm.frames + 1 ≤ R.frames ∧ 8 + (maxL + 11) + rm.locals ≤ R.locals)
    (hd : decode cc pc = .ok (.invokespecial index, 3)) (hf : cs + mc ≤ R.cells ∧ sl + ms ≤ R.slots) (hcat : (rest.map fun v => v.category).sum ≤ 8)
    (kk : ∀ (v : Option Value) (w' : va_W), post v w' → GL p l e R s m args below meth c Q E A nL (cs + mc) (sl + ms) w' (pc + 3) lv (v.toList ++ rest)) : GL p l e R s m args below meth c Q E A nL cs sl w pc lv st := fun H locs ls hP hD hS hl =>
  l_run (va_runI (As := As) (rest := rest) ⟨h.1, h.2.1, h.2.2.1, h.2.2.2.1, h.2.2.2.2.1⟩ (hM H.size) (cwI n h.2.2.2.2.1 hG hw hrc hrs (h.2.2.2.2.1 _ hini) (h.2.2.2.2.1 _ hlink) (h.2.2.2.2.1 _ hinst) hy1 hdd hR) ⟨lPc_blind, fun U hU hW => lPre h hP hD hS U hU hW⟩ rfl hn hl.1 hst (lv_room hcat) hd hf) h.2.2.2.2.2.2.2.2 hD hS hl kk
theorem l_callIN (h : lO p s m args c cc nL own Ts E A) {ym : MethodName} {host : String} {bytes : ByteArray} {maxL index mc ms b : Nat} {ws ws' : List Cond} {rm : Room} {As rest : List Value} {post : Option Value → va_W → Prop} (n : Nat) (hM : CL l ym ws rm E (.ref b :: As) w post mc ms) (hst : st = As.reverse ++ .ref b :: rest) (hG : GoodIn Ts ws) (hw : ws = Cond.code ym bytes maxL none :: ws') (hrc : rm.cells = mc) (hrs : rm.slots = ms) (hn : As.length = n)
    (hini : Cond.initialized ym.cls ∈ Ts) (hlink : va_Nw (.methodLinkNest own index ym host) s) (hinst : Cond.instanceMethod ym ∈ Ts) (hy1 : ym.name = "<init>")
    (hdd : ym.cls ≠ "java/lang/invoke/MethodHandle" ∧ ym.cls ≠ "java/lang/invoke/VarHandle" ∧ (parseMethodDescriptor ym.desc).map (fun d => d.parameters.length) = some n) (hR : rm.frames + 1 ≤ R.frames ∧ 8 + (maxL + 11) + rm.locals ≤ R.locals)
    (hd : decode cc pc = .ok (.invokespecial index, 3)) (hf : cs + mc ≤ R.cells ∧ sl + ms ≤ R.slots) (hcat : (rest.map fun v => v.category).sum ≤ 8)
    (kk : ∀ (v : Option Value) (w' : va_W), post v w' → GL p l e R s m args below meth c Q E A nL (cs + mc) (sl + ms) w' (pc + 3) lv (v.toList ++ rest)) : GL p l e R s m args below meth c Q E A nL cs sl w pc lv st := fun H locs ls hP hD hS hl =>
  l_run (va_runIN (As := As) (rest := rest) ⟨h.1, h.2.1, h.2.2.1, h.2.2.2.1, h.2.2.2.2.1⟩ (hM H.size) ⟨va_cnB n h.2.2.2.2.1 hG hw hrc hrs hlink (h.2.2.2.2.1 _ hini) hdd hR, hy1, h.2.2.2.2.1 _ hinst⟩ ⟨lPc_blind, fun U hU hW => lPre h hP hD hS U hU hW⟩ rfl hn hl.1 hst (lv_room hcat) hd hf) h.2.2.2.2.2.2.2.2 hD hS hl kk
theorem l_vret {w0 : va_W} (h : lO p s m args c cc nL own Ts E (va_A w0 s.heap.size)) {post : Option Value → va_W → Prop} {mc ms : Nat} (hr : meth.sig.returnType = none) (hk : meth.locks = false) (hd : decode cc pc = .ok (.return_, 1)) (hc : cs ≤ mc) (hs : sl ≤ ms) (hp : post none w) : GL p l e R s m args below meth c (lQ below E w0 s post args mc ms) E (va_A w0 s.heap.size) nL cs sl w pc lv [] := fun H locs ls hP hD hS hl =>
  W.widen hc hs (W.vret h.1 h.2.1 hr (fun t ht hW => ⟨⟨none, w, rfl, hp, by rw [ht]; exact hP, hD⟩, hS.F ht⟩) hS.2.2 hd hk)
end GLW
