/-! ===== what the Statement gives of the start ===== -/
theorem lw_at {w : Cond} (j i : Nat) (h : (lwC[j]?).bind (fun c => c[i]?) = some w) : w ∈ lw_tbl := by
  cases hc : lwC[j]? with
  | none => rw [hc] at h; cases h
  | some c => rw [hc] at h; exact lwC_in c (List.mem_of_getElem? hc) w (List.mem_of_getElem? h)
theorem st_ari {args : Array Value} {s : State} {ty : FieldType} (h : (Cond.arrayClass ty).before args s = true) : ∃ cA : ClassId, ArrOfT s cA ty ∧ s.vm.findClass ("[" ++ ty.toString) = some cA := by
  obtain ⟨c, k, comp, h1, h2, h3⟩ := Cond.arrayClass_spec h
  exact ⟨c, fun n z => ⟨fun k h => (by cases h), k, h2, comp, h3⟩, h1⟩
theorem st_aro {args : Array Value} {s : State} {C : String} (h : (Cond.arrayOver (.object C)).before args s = true) : ∃ cA : ClassId, ArrOfT s cA (.object C) ∧ va_RA s cA (.object C) := by
  obtain ⟨comp, c, k, f1, f2, f3, f4, f5⟩ := Cond.arrayOver_spec h
  exact ⟨c, fun n z => ⟨fun k h => (by cases h), k, f3, comp, f4⟩, k, comp, f3, f4, f1, f5⟩
set_option maxRecDepth 20000 in
theorem st_K {args : Array Value} {s : State} (hts : ∀ w ∈ lw_tbl, w.before args s = true) : ∃ (D : va_G) (cid : Nat → ClassId), ∀ E : gE, E.D = D → E.cid = cid → va_K E.D vwCl (gtys E) s := by
  obtain ⟨c0, i0, k0⟩ := u_known (C := RJx4a65c) (T := TJx4a65c) (N := 3) hts inJx4a65c (hts (.instantiable RJx4a65c 3) (lw_at 1 39 (by decide +kernel)))
  obtain ⟨c1, i1, k1⟩ := u_known (C := RX0) (T := TX0) (N := 14) hts inX0 (hts (.instantiable RX0 14) (lw_at 1 71 (by decide +kernel)))
  obtain ⟨c2, i2, k2⟩ := u_known (C := RX1) (T := TX1) (N := 9) hts inX1 (hts (.instantiable RX1 9) (lw_at 1 166 (by decide +kernel)))
  obtain ⟨c3, i3, k3⟩ := u_known (C := RX2) (T := TX2) (N := 7) hts inX2 (hts (.instantiable RX2 7) (lw_at 2 203 (by decide +kernel)))
  obtain ⟨c4, i4, k4⟩ := u_known (C := RX3) (T := TX3) (N := 1) hts inX3 (hts (.instantiable RX3 1) (lw_at 1 33 (by decide +kernel)))
  obtain ⟨c5, i5, k5⟩ := u_known (C := RX4) (T := TX4) (N := 7) hts inX4 (hts (.instantiable RX4 7) (lw_at 1 77 (by decide +kernel)))
  obtain ⟨c6, i6, k6⟩ := u_known (C := RX5) (T := TX5) (N := 3) hts inX5 (hts (.instantiable RX5 3) (lw_at 1 25 (by decide +kernel)))
  obtain ⟨a0, y0, z0⟩ := st_ari (hts (.arrayClass .int) (lw_at 1 163 (by decide +kernel)))
  obtain ⟨a1, y1, z1⟩ := st_ari (hts (.arrayClass .boolean) (lw_at 3 174 (by decide +kernel)))
  obtain ⟨a2, y2, z2⟩ := st_aro (hts (.arrayOver (.object RX0)) (lw_at 1 70 (by decide +kernel)))
  obtain ⟨a3, y3, z3⟩ := st_aro (hts (.arrayOver (.object RX1)) (lw_at 1 165 (by decide +kernel)))
  obtain ⟨a4, y4, z4⟩ := st_aro (hts (.arrayOver (.object "java/lang/Object")) (lw_at 3 50 (by decide +kernel)))
  refine ⟨(fun c => match c with | 0 => c0 | 1 => c1 | 2 => c2 | 3 => c3 | 4 => c4 | 5 => c5 | _ => c6, fun c => match c with | 0 => i0 | 1 => i1 | 2 => i2 | 3 => i3 | 4 => i4 | 5 => i5 | _ => i6), fun k => match k with | 0 => a0 | 1 => a1 | 2 => a2 | 3 => a3 | _ => a4, fun E e1 e2 => ?_⟩
  unfold gtys
  rw [e1, e2]
  refine ⟨fun c q hq => ?_, fun k q hq => ?_⟩
  · have hl : c < 7 := (List.getElem?_eq_some_iff.mp hq).1
    rcases (show c = 0 ∨ c = 1 ∨ c = 2 ∨ c = 3 ∨ c = 4 ∨ c = 5 ∨ c = 6 by omega) with rfl | rfl | rfl | rfl | rfl | rfl | rfl
    · obtain rfl := Option.some.inj (show some (RJx4a65c, TJx4a65c, 3) = some q from hq)
      exact k0
    · obtain rfl := Option.some.inj (show some (RX0, TX0, 14) = some q from hq)
      exact k1
    · obtain rfl := Option.some.inj (show some (RX1, TX1, 9) = some q from hq)
      exact k2
    · obtain rfl := Option.some.inj (show some (RX2, TX2, 7) = some q from hq)
      exact k3
    · obtain rfl := Option.some.inj (show some (RX3, TX3, 1) = some q from hq)
      exact k4
    · obtain rfl := Option.some.inj (show some (RX4, TX4, 7) = some q from hq)
      exact k5
    · obtain rfl := Option.some.inj (show some (RX5, TX5, 3) = some q from hq)
      exact k6
  · have hl : k < 5 := (List.getElem?_eq_some_iff.mp hq).1
    rcases (show k = 0 ∨ k = 1 ∨ k = 2 ∨ k = 3 ∨ k = 4 by omega) with rfl | rfl | rfl | rfl | rfl
    · obtain rfl := Option.some.inj (show some (a0, (.int : FieldType)) = some q from hq)
      exact ⟨y0, z0⟩
    · obtain rfl := Option.some.inj (show some (a1, (.boolean : FieldType)) = some q from hq)
      exact ⟨y1, z1⟩
    · obtain rfl := Option.some.inj (show some (a2, ((.object RX0) : FieldType)) = some q from hq)
      exact ⟨y2, z2⟩
    · obtain rfl := Option.some.inj (show some (a3, ((.object RX1) : FieldType)) = some q from hq)
      exact ⟨y3, z3⟩
    · obtain rfl := Option.some.inj (show some (a4, ((.object "java/lang/Object") : FieldType)) = some q from hq)
      exact ⟨y4, z4⟩
theorem st_str {args : Array Value} {s : State} {k : Nat} {tx : String} (h1 : (Cond.stringRef RX5 k tx).before args s = true) (h2 : (Cond.exactly (.string RX5 k) "java/lang/String").before args s = true) : ∃ a : Nat, vk_R RX5 k tx a s := by
  obtain ⟨a, -, -, -, h3, -⟩ := Cond.exactly_spec h2
  exact ⟨a, vk_R.of h1 h3⟩
/-- the premises that are taken of the start -/
def st_fl : List Cond := [.exactly (.string RX5 38) "java/lang/String", .exactly (.string RX5 43) "java/lang/String", .exactly (.string RX5 51) "java/lang/String", .exactly (.string RX5 87) "java/lang/String", .exactly (.string RX5 108) "java/lang/String", .exactly (.string RX5 113) "java/lang/String", .exactly (.string RX5 108) "java/lang/String", .exactly (.string RX5 108) "java/lang/String", .exactly (.string RX5 212) "java/lang/String", .exactly (.string RX5 215) "java/lang/String", .exactly (.string RX5 217) "java/lang/String", .exactly (.string RX5 219) "java/lang/String", .exactly (.string RX5 221) "java/lang/String", .exactly (.string RX5 223) "java/lang/String", .not (.castable "java/lang/IllegalStateException" "java/util/NoSuchElementException"), .arrayOf (.static "java/util/ArrayList" "DEFAULTCAPACITY_EMPTY_ELEMENTDATA" "[Ljava/lang/Object;") (.object "java/lang/Object"), .eq (.length (.static "java/util/ArrayList" "DEFAULTCAPACITY_EMPTY_ELEMENTDATA" "[Ljava/lang/Object;")) (.int 0), .isRef (.static Bundle.tN "UNASSIGNED_STACK" Bundle.steD), .isRef (.static Bundle.tN "SUPPRESSED_SENTINEL" Bundle.listD), .isRef (.mirror "[Ljava/lang/Object;")]
set_option maxRecDepth 20000 in
theorem st_gW3 {args : Array Value} {s : State} (hts : ∀ w ∈ lw_tbl, w.before args s = true) (hs : ∀ w ∈ st_fl, w.before args s = true) : ∃ sa : Nat → Nat, ∀ (mi : Nat) (E : gE), E.sa = (fun j => if j = 100 then mi else sa j) → gW3 E s := by
  obtain ⟨a0, k0⟩ := st_str (k := 38) (tx := "ways is not 1 to 4") (hts _ (lw_at 2 57 (by decide +kernel))) (hs _ (List.mem_of_getElem? (i := 0) rfl))
  obtain ⟨a1, k1⟩ := st_str (k := 43) (tx := "victims is not 0 to 2") (hts _ (lw_at 2 64 (by decide +kernel))) (hs _ (List.mem_of_getElem? (i := 1) rfl))
  obtain ⟨a2, k2⟩ := st_str (k := 51) (tx := "the cache holds a line, or a request is open") (hts _ (lw_at 2 78 (by decide +kernel))) (hs _ (List.mem_of_getElem? (i := 2) rfl))
  obtain ⟨a3, k3⟩ := st_str (k := 87) (tx := "value is not 0 to 9999") (hts _ (lw_at 3 162 (by decide +kernel))) (hs _ (List.mem_of_getElem? (i := 3) rfl))
  obtain ⟨a4, k4⟩ := st_str (k := 108) (tx := "a request for this line is open") (hts _ (lw_at 3 172 (by decide +kernel))) (hs _ (List.mem_of_getElem? (i := 4) rfl))
  obtain ⟨a5, k5⟩ := st_str (k := 113) (tx := "the victim buffer has no room") (hts _ (lw_at 3 140 (by decide +kernel))) (hs _ (List.mem_of_getElem? (i := 5) rfl))
  obtain ⟨a6, k6⟩ := st_str (k := 108) (tx := "a request for this line is open") (hts _ (lw_at 3 172 (by decide +kernel))) (hs _ (List.mem_of_getElem? (i := 6) rfl))
  obtain ⟨a7, k7⟩ := st_str (k := 108) (tx := "a request for this line is open") (hts _ (lw_at 3 172 (by decide +kernel))) (hs _ (List.mem_of_getElem? (i := 7) rfl))
  obtain ⟨a8, k8⟩ := st_str (k := 212) (tx := "there is no such cache") (hts _ (lw_at 2 21 (by decide +kernel))) (hs _ (List.mem_of_getElem? (i := 8) rfl))
  obtain ⟨a9, k9⟩ := st_str (k := 215) (tx := "there is no such message") (hts _ (lw_at 2 148 (by decide +kernel))) (hs _ (List.mem_of_getElem? (i := 9) rfl))
  obtain ⟨a10, k10⟩ := st_str (k := 217) (tx := "there is no such line") (hts _ (lw_at 2 92 (by decide +kernel))) (hs _ (List.mem_of_getElem? (i := 10) rfl))
  obtain ⟨a11, k11⟩ := st_str (k := 219) (tx := "the line is not in the cache") (hts _ (lw_at 2 113 (by decide +kernel))) (hs _ (List.mem_of_getElem? (i := 11) rfl))
  obtain ⟨a12, k12⟩ := st_str (k := 221) (tx := "a request of this cache is open") (hts _ (lw_at 3 130 (by decide +kernel))) (hs _ (List.mem_of_getElem? (i := 12) rfl))
  obtain ⟨a13, k13⟩ := st_str (k := 223) (tx := "the line is in the victim buffer") (hts _ (lw_at 3 131 (by decide +kernel))) (hs _ (List.mem_of_getElem? (i := 13) rfl))
  refine ⟨fun j => match j with | 0 => a0 | 1 => a1 | 2 => a2 | 3 => a3 | 4 => a4 | 5 => a5 | 6 => a6 | 7 => a7 | 8 => a8 | 9 => a9 | 10 => a10 | 11 => a11 | 12 => a12 | _ => a13, fun mi E e => ⟨fun j q hq => ?_, fun q hq => ?_, fun q hq => ?_, fun y hy => ?_⟩⟩
  · have hl : j < 14 := (List.getElem?_eq_some_iff.mp hq).1
    rw [e]
    rcases (show j = 0 ∨ j = 1 ∨ j = 2 ∨ j = 3 ∨ j = 4 ∨ j = 5 ∨ j = 6 ∨ j = 7 ∨ j = 8 ∨ j = 9 ∨ j = 10 ∨ j = 11 ∨ j = 12 ∨ j = 13 by omega) with rfl | rfl | rfl | rfl | rfl | rfl | rfl | rfl | rfl | rfl | rfl | rfl | rfl | rfl
    · obtain rfl := Option.some.inj (show some (38, "ways is not 1 to 4") = some q from hq)
      exact k0
    · obtain rfl := Option.some.inj (show some (43, "victims is not 0 to 2") = some q from hq)
      exact k1
    · obtain rfl := Option.some.inj (show some (51, "the cache holds a line, or a request is open") = some q from hq)
      exact k2
    · obtain rfl := Option.some.inj (show some (87, "value is not 0 to 9999") = some q from hq)
      exact k3
    · obtain rfl := Option.some.inj (show some (108, "a request for this line is open") = some q from hq)
      exact k4
    · obtain rfl := Option.some.inj (show some (113, "the victim buffer has no room") = some q from hq)
      exact k5
    · obtain rfl := Option.some.inj (show some (108, "a request for this line is open") = some q from hq)
      exact k6
    · obtain rfl := Option.some.inj (show some (108, "a request for this line is open") = some q from hq)
      exact k7
    · obtain rfl := Option.some.inj (show some (212, "there is no such cache") = some q from hq)
      exact k8
    · obtain rfl := Option.some.inj (show some (215, "there is no such message") = some q from hq)
      exact k9
    · obtain rfl := Option.some.inj (show some (217, "there is no such line") = some q from hq)
      exact k10
    · obtain rfl := Option.some.inj (show some (219, "the line is not in the cache") = some q from hq)
      exact k11
    · obtain rfl := Option.some.inj (show some (221, "a request of this cache is open") = some q from hq)
      exact k12
    · obtain rfl := Option.some.inj (show some (223, "the line is in the victim buffer") = some q from hq)
      exact k13
  · simp only [gcast, List.mem_cons, List.not_mem_nil, or_false] at hq
    rcases hq with rfl | rfl
    · exact va_Nw.of rfl (hts _ (lw_at 2 71 (by decide +kernel)))
    · exact va_Nw.of rfl (hts _ (lw_at 2 106 (by decide +kernel)))
  · simp only [gnot, List.mem_cons, List.not_mem_nil, or_false] at hq
    rcases hq with rfl
    · exact va_Nc.of (hs _ (List.mem_of_getElem? (i := 14) rfl))
  · simp only [gdecl, List.mem_cons, List.not_mem_nil, or_false] at hy
    rcases hy with rfl | rfl | rfl
    · exact va_Nw.of rfl (hts _ (lw_at 1 223 (by decide +kernel)))
    · exact va_Nw.of rfl (hts _ (lw_at 1 225 (by decide +kernel)))
    · exact va_Nw.of rfl (hts _ (lw_at 1 227 (by decide +kernel)))
set_option maxRecDepth 20000 in
theorem st_Z {args : Array Value} {s : State} (hts : ∀ w ∈ lw_tbl, w.before args s = true) (hs : ∀ w ∈ st_fl, w.before args s = true) : ∃ (z : Nat) (sa : Nat → Nat), ∀ E : gE, E.z = z → E.sa = sa → gZ E (fun q => s.heap.size ≤ q) s s.heap ∧ gN s := by
  have hA : ∀ a : Nat, a < s.heap.size → ¬ s.heap.size ≤ a := fun a h => by omega
  obtain ⟨sa, h3⟩ := st_gW3 hts hs
  obtain ⟨z, hz, hT⟩ := va_Tof (A := fun q => s.heap.size ≤ q) (N := 0) (f := fun _ => .null) (by decide) (hs _ (List.mem_of_getElem? (i := 15) rfl)) (va_eqt (hs _ (List.mem_of_getElem? (i := 16) rfl))) (fun j hj => absurd hj (Nat.not_lt_zero j)) hA
  obtain ⟨mi, hM⟩ := va_Mi.of (hs _ (List.mem_of_getElem? (i := 19) rfl))
  refine ⟨z, fun j => if j = 100 then mi else sa j, fun E e1 e2 => ⟨⟨?_, ?_, ?_, ?_, ?_, ?_, h3 mi E e2, ?_, ?_⟩, ?_, ?_, ?_, ?_⟩⟩
  · rw [e1]
    exact va_Zof (hts _ (lw_at 1 51 (by decide +kernel))) (hts _ (lw_at 1 5 (by decide +kernel))) hz hA
  · rw [e1]
    exact hT
  · exact vx_Zqof (hts _ (lw_at 2 6 (by decide +kernel))) (hts _ (lw_at 1 9 (by decide +kernel))) (hs _ (List.mem_of_getElem? (i := 17) rfl)) hA
  · exact vx_Zqof (hts _ (lw_at 2 8 (by decide +kernel))) (hts _ (lw_at 1 9 (by decide +kernel))) (hs _ (List.mem_of_getElem? (i := 18) rfl)) hA
  · exact va_AO.of (hts _ (lw_at 3 50 (by decide +kernel)))
  · rw [e2]
    exact hM
  · exact va_Nw.of rfl (hts _ (lw_at 3 185 (by decide +kernel)))
  · exact va_Nw.of rfl (hts _ (lw_at 3 191 (by decide +kernel)))
  · exact va_Nw.of rfl (hts _ (lw_at 1 34 (by decide +kernel)))
  · exact va_Nw.of rfl (hts _ (lw_at 1 78 (by decide +kernel)))
  · exact va_AO.of (hts _ (lw_at 1 70 (by decide +kernel)))
  · exact va_AO.of (hts _ (lw_at 1 165 (by decide +kernel)))
set_option maxRecDepth 100000 in
theorem st_fl_in : ∀ w ∈ st_fl, w ∈ flatC (Jvm.Cond.and given_1 narrow_1) := by decide +kernel
