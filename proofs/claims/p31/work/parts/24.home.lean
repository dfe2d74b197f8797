section GC
variable {p : Program} {l : Launch} {e : Env} {R : Room} {s : State} {m : MethodId} {args : Array Value} {below : List Frame} {meth : Method} {c : Code} {Q : State → Prop} {E : gE} {S0 x y : St} {nL cs sl : Nat} {cc : ByteArray} {own : String} {Ts : List Cond} {pc : Nat} {lv lv' : List (Nat × Value)} {st : List Value}
theorem g_cast (h : gO p s m args c cc nL own Ts E S0) {index a : Nat} (hlink : Cond.classLink own index RX2 ∈ Ts) (hm : a ∈ x.PL) (hk : x.PK a = true) (hd : decode cc pc = .ok (.checkcast index, 3)) (kk : G p l e R s m args below meth c Q E S0 nL cs sl x (pc + 3) lv (.ref a :: st)) : G p l e R s m args below meth c Q E S0 nL cs sl x pc lv (.ref a :: st) := fun H locs ls hP hD hS hl => by
  obtain ⟨qk, hv⟩ := wat_Ms E x hm hk
  exact va_castE h.1 h.2.1 h.2.2.2.1 (h.2.2.2.2.1 _ hlink) (va_recv h.2.2.2.2.2.1 hP (q := (RX2, TX2, 7)) rfl hv) hd (kk H locs ls hP hD hS hl)
end GC
def r_J6_bitCount_0f7a4 (x : St) (b : Int32) : Int32 :=
  (((((((b - (((b.toUInt32 >>> ((nI 1).toUInt32 &&& Int32.toUInt32 31)).toInt32) &&& ((1431655765 : Int32)))) &&& ((858993459 : Int32))) + ((((b - (((b.toUInt32 >>> ((nI 1).toUInt32 &&& Int32.toUInt32 31)).toInt32) &&& ((1431655765 : Int32)))).toUInt32 >>> ((nI 2).toUInt32 &&& Int32.toUInt32 31)).toInt32) &&& ((858993459 : Int32)))) + (((((b - (((b.toUInt32 >>> ((nI 1).toUInt32 &&& Int32.toUInt32 31)).toInt32) &&& ((1431655765 : Int32)))) &&& ((858993459 : Int32))) + ((((b - (((b.toUInt32 >>> ((nI 1).toUInt32 &&& Int32.toUInt32 31)).toInt32) &&& ((1431655765 : Int32)))).toUInt32 >>> ((nI 2).toUInt32 &&& Int32.toUInt32 31)).toInt32) &&& ((858993459 : Int32)))).toUInt32 >>> ((nI 4).toUInt32 &&& Int32.toUInt32 31)).toInt32)) &&& ((252645135 : Int32))) + (((((((b - (((b.toUInt32 >>> ((nI 1).toUInt32 &&& Int32.toUInt32 31)).toInt32) &&& ((1431655765 : Int32)))) &&& ((858993459 : Int32))) + ((((b - (((b.toUInt32 >>> ((nI 1).toUInt32 &&& Int32.toUInt32 31)).toInt32) &&& ((1431655765 : Int32)))).toUInt32 >>> ((nI 2).toUInt32 &&& Int32.toUInt32 31)).toInt32) &&& ((858993459 : Int32)))) + (((((b - (((b.toUInt32 >>> ((nI 1).toUInt32 &&& Int32.toUInt32 31)).toInt32) &&& ((1431655765 : Int32)))) &&& ((858993459 : Int32))) + ((((b - (((b.toUInt32 >>> ((nI 1).toUInt32 &&& Int32.toUInt32 31)).toInt32) &&& ((1431655765 : Int32)))).toUInt32 >>> ((nI 2).toUInt32 &&& Int32.toUInt32 31)).toInt32) &&& ((858993459 : Int32)))).toUInt32 >>> ((nI 4).toUInt32 &&& Int32.toUInt32 31)).toInt32)) &&& ((252645135 : Int32))).toUInt32 >>> ((nI 8).toUInt32 &&& Int32.toUInt32 31)).toInt32)) + ((((((((b - (((b.toUInt32 >>> ((nI 1).toUInt32 &&& Int32.toUInt32 31)).toInt32) &&& ((1431655765 : Int32)))) &&& ((858993459 : Int32))) + ((((b - (((b.toUInt32 >>> ((nI 1).toUInt32 &&& Int32.toUInt32 31)).toInt32) &&& ((1431655765 : Int32)))).toUInt32 >>> ((nI 2).toUInt32 &&& Int32.toUInt32 31)).toInt32) &&& ((858993459 : Int32)))) + (((((b - (((b.toUInt32 >>> ((nI 1).toUInt32 &&& Int32.toUInt32 31)).toInt32) &&& ((1431655765 : Int32)))) &&& ((858993459 : Int32))) + ((((b - (((b.toUInt32 >>> ((nI 1).toUInt32 &&& Int32.toUInt32 31)).toInt32) &&& ((1431655765 : Int32)))).toUInt32 >>> ((nI 2).toUInt32 &&& Int32.toUInt32 31)).toInt32) &&& ((858993459 : Int32)))).toUInt32 >>> ((nI 4).toUInt32 &&& Int32.toUInt32 31)).toInt32)) &&& ((252645135 : Int32))) + (((((((b - (((b.toUInt32 >>> ((nI 1).toUInt32 &&& Int32.toUInt32 31)).toInt32) &&& ((1431655765 : Int32)))) &&& ((858993459 : Int32))) + ((((b - (((b.toUInt32 >>> ((nI 1).toUInt32 &&& Int32.toUInt32 31)).toInt32) &&& ((1431655765 : Int32)))).toUInt32 >>> ((nI 2).toUInt32 &&& Int32.toUInt32 31)).toInt32) &&& ((858993459 : Int32)))) + (((((b - (((b.toUInt32 >>> ((nI 1).toUInt32 &&& Int32.toUInt32 31)).toInt32) &&& ((1431655765 : Int32)))) &&& ((858993459 : Int32))) + ((((b - (((b.toUInt32 >>> ((nI 1).toUInt32 &&& Int32.toUInt32 31)).toInt32) &&& ((1431655765 : Int32)))).toUInt32 >>> ((nI 2).toUInt32 &&& Int32.toUInt32 31)).toInt32) &&& ((858993459 : Int32)))).toUInt32 >>> ((nI 4).toUInt32 &&& Int32.toUInt32 31)).toInt32)) &&& ((252645135 : Int32))).toUInt32 >>> ((nI 8).toUInt32 &&& Int32.toUInt32 31)).toInt32)).toUInt32 >>> ((nI 16).toUInt32 &&& Int32.toUInt32 31)).toInt32)) &&& (nI 63)
set_option maxRecDepth 100000 in
set_option maxHeartbeats 400000 in
theorem c_J6_bitCount_0f7a4 (l : Launch) (E : gE) (x : St) (b : Int32)  : Ct l yJ6_bitCount_0f7a4 wsJ6_bitCount_0f7a4 { frames := 0, cells := 0, slots := 0, locals := 0 } E [.int b] x (fun v y => v = some (.int (r_J6_bitCount_0f7a4 x b)) ∧ y = x) 0 0 := by
  refine Ct.of (cc := cJ6_bitCount_0f7a4) (nL := 1) (ret := (some .int)) (by decide) rfl (Nat.le_of_ble_eq_true rfl) ?_
  intro p e s m args below meth c h hr hk hname
  refine g_lvs (lv' := [(0, _)]) rfl ?_
  refine g_iload_n h 0 dJ6_bitCount_0f7a4_0 rfl rfl ?_
  refine g_iload_n h 0 dJ6_bitCount_0f7a4_1 rfl rfl ?_
  refine g_iconst (v := nI 1) h dJ6_bitCount_0f7a4_2 (by decide) ?_
  refine g_iushr h dJ6_bitCount_0f7a4_3 rfl ?_
  refine g_ldc_w (v := 1431655765) h dJ6_bitCount_0f7a4_4 (by decide +kernel) ?_
  refine g_iand h dJ6_bitCount_0f7a4_7 ?_
  refine g_isub h dJ6_bitCount_0f7a4_8 ?_
  refine g_istore_n (lv' := [(0, _)]) h [0] dJ6_bitCount_0f7a4_9 rfl (by decide) rfl ?_
  refine g_iload_n h 0 dJ6_bitCount_0f7a4_10 rfl rfl ?_
  refine g_ldc_w (v := 858993459) h dJ6_bitCount_0f7a4_11 (by decide +kernel) ?_
  refine g_iand h dJ6_bitCount_0f7a4_14 ?_
  refine g_iload_n h 0 dJ6_bitCount_0f7a4_15 rfl rfl ?_
  refine g_iconst (v := nI 2) h dJ6_bitCount_0f7a4_16 (by decide) ?_
  refine g_iushr h dJ6_bitCount_0f7a4_17 rfl ?_
  refine g_ldc_w (v := 858993459) h dJ6_bitCount_0f7a4_18 (by decide +kernel) ?_
  refine g_iand h dJ6_bitCount_0f7a4_21 ?_
  refine g_iadd h dJ6_bitCount_0f7a4_22 ?_
  refine g_istore_n (lv' := [(0, _)]) h [0] dJ6_bitCount_0f7a4_23 rfl (by decide) rfl ?_
  refine g_iload_n h 0 dJ6_bitCount_0f7a4_24 rfl rfl ?_
  refine g_iload_n h 0 dJ6_bitCount_0f7a4_25 rfl rfl ?_
  refine g_iconst (v := nI 4) h dJ6_bitCount_0f7a4_26 (by decide) ?_
  refine g_iushr h dJ6_bitCount_0f7a4_27 rfl ?_
  refine g_iadd h dJ6_bitCount_0f7a4_28 ?_
  refine g_ldc_w (v := 252645135) h dJ6_bitCount_0f7a4_29 (by decide +kernel) ?_
  refine g_iand h dJ6_bitCount_0f7a4_32 ?_
  refine g_istore_n (lv' := [(0, _)]) h [0] dJ6_bitCount_0f7a4_33 rfl (by decide) rfl ?_
  refine g_iload_n h 0 dJ6_bitCount_0f7a4_34 rfl rfl ?_
  refine g_iload_n h 0 dJ6_bitCount_0f7a4_35 rfl rfl ?_
  refine g_bipush (v := nI 8) h dJ6_bitCount_0f7a4_36 (by decide) ?_
  refine g_iushr h dJ6_bitCount_0f7a4_38 rfl ?_
  refine g_iadd h dJ6_bitCount_0f7a4_39 ?_
  refine g_istore_n (lv' := [(0, _)]) h [0] dJ6_bitCount_0f7a4_40 rfl (by decide) rfl ?_
  refine g_iload_n h 0 dJ6_bitCount_0f7a4_41 rfl rfl ?_
  refine g_iload_n h 0 dJ6_bitCount_0f7a4_42 rfl rfl ?_
  refine g_bipush (v := nI 16) h dJ6_bitCount_0f7a4_43 (by decide) ?_
  refine g_iushr h dJ6_bitCount_0f7a4_45 rfl ?_
  refine g_iadd h dJ6_bitCount_0f7a4_46 ?_
  refine g_istore_n (lv' := [(0, _)]) h [0] dJ6_bitCount_0f7a4_47 rfl (by decide) rfl ?_
  refine g_iload_n h 0 dJ6_bitCount_0f7a4_48 rfl rfl ?_
  refine g_bipush (v := nI 63) h dJ6_bitCount_0f7a4_49 (by decide) ?_
  refine g_iand h dJ6_bitCount_0f7a4_51 ?_
  exact g_iret h hr hk dJ6_bitCount_0f7a4_52 (Nat.zero_le _) (Nat.zero_le _) ⟨congrArg (fun z => some (Value.int z)) (Eq.symm rfl), rfl⟩
def bitc (b : Int32) : Int32 :=
  (((((((b - (((b.toUInt32 >>> ((nI 1).toUInt32 &&& Int32.toUInt32 31)).toInt32) &&& ((1431655765 : Int32)))) &&& ((858993459 : Int32))) + ((((b - (((b.toUInt32 >>> ((nI 1).toUInt32 &&& Int32.toUInt32 31)).toInt32) &&& ((1431655765 : Int32)))).toUInt32 >>> ((nI 2).toUInt32 &&& Int32.toUInt32 31)).toInt32) &&& ((858993459 : Int32)))) + (((((b - (((b.toUInt32 >>> ((nI 1).toUInt32 &&& Int32.toUInt32 31)).toInt32) &&& ((1431655765 : Int32)))) &&& ((858993459 : Int32))) + ((((b - (((b.toUInt32 >>> ((nI 1).toUInt32 &&& Int32.toUInt32 31)).toInt32) &&& ((1431655765 : Int32)))).toUInt32 >>> ((nI 2).toUInt32 &&& Int32.toUInt32 31)).toInt32) &&& ((858993459 : Int32)))).toUInt32 >>> ((nI 4).toUInt32 &&& Int32.toUInt32 31)).toInt32)) &&& ((252645135 : Int32))) + (((((((b - (((b.toUInt32 >>> ((nI 1).toUInt32 &&& Int32.toUInt32 31)).toInt32) &&& ((1431655765 : Int32)))) &&& ((858993459 : Int32))) + ((((b - (((b.toUInt32 >>> ((nI 1).toUInt32 &&& Int32.toUInt32 31)).toInt32) &&& ((1431655765 : Int32)))).toUInt32 >>> ((nI 2).toUInt32 &&& Int32.toUInt32 31)).toInt32) &&& ((858993459 : Int32)))) + (((((b - (((b.toUInt32 >>> ((nI 1).toUInt32 &&& Int32.toUInt32 31)).toInt32) &&& ((1431655765 : Int32)))) &&& ((858993459 : Int32))) + ((((b - (((b.toUInt32 >>> ((nI 1).toUInt32 &&& Int32.toUInt32 31)).toInt32) &&& ((1431655765 : Int32)))).toUInt32 >>> ((nI 2).toUInt32 &&& Int32.toUInt32 31)).toInt32) &&& ((858993459 : Int32)))).toUInt32 >>> ((nI 4).toUInt32 &&& Int32.toUInt32 31)).toInt32)) &&& ((252645135 : Int32))).toUInt32 >>> ((nI 8).toUInt32 &&& Int32.toUInt32 31)).toInt32)) + ((((((((b - (((b.toUInt32 >>> ((nI 1).toUInt32 &&& Int32.toUInt32 31)).toInt32) &&& ((1431655765 : Int32)))) &&& ((858993459 : Int32))) + ((((b - (((b.toUInt32 >>> ((nI 1).toUInt32 &&& Int32.toUInt32 31)).toInt32) &&& ((1431655765 : Int32)))).toUInt32 >>> ((nI 2).toUInt32 &&& Int32.toUInt32 31)).toInt32) &&& ((858993459 : Int32)))) + (((((b - (((b.toUInt32 >>> ((nI 1).toUInt32 &&& Int32.toUInt32 31)).toInt32) &&& ((1431655765 : Int32)))) &&& ((858993459 : Int32))) + ((((b - (((b.toUInt32 >>> ((nI 1).toUInt32 &&& Int32.toUInt32 31)).toInt32) &&& ((1431655765 : Int32)))).toUInt32 >>> ((nI 2).toUInt32 &&& Int32.toUInt32 31)).toInt32) &&& ((858993459 : Int32)))).toUInt32 >>> ((nI 4).toUInt32 &&& Int32.toUInt32 31)).toInt32)) &&& ((252645135 : Int32))) + (((((((b - (((b.toUInt32 >>> ((nI 1).toUInt32 &&& Int32.toUInt32 31)).toInt32) &&& ((1431655765 : Int32)))) &&& ((858993459 : Int32))) + ((((b - (((b.toUInt32 >>> ((nI 1).toUInt32 &&& Int32.toUInt32 31)).toInt32) &&& ((1431655765 : Int32)))).toUInt32 >>> ((nI 2).toUInt32 &&& Int32.toUInt32 31)).toInt32) &&& ((858993459 : Int32)))) + (((((b - (((b.toUInt32 >>> ((nI 1).toUInt32 &&& Int32.toUInt32 31)).toInt32) &&& ((1431655765 : Int32)))) &&& ((858993459 : Int32))) + ((((b - (((b.toUInt32 >>> ((nI 1).toUInt32 &&& Int32.toUInt32 31)).toInt32) &&& ((1431655765 : Int32)))).toUInt32 >>> ((nI 2).toUInt32 &&& Int32.toUInt32 31)).toInt32) &&& ((858993459 : Int32)))).toUInt32 >>> ((nI 4).toUInt32 &&& Int32.toUInt32 31)).toInt32)) &&& ((252645135 : Int32))).toUInt32 >>> ((nI 8).toUInt32 &&& Int32.toUInt32 31)).toInt32)).toUInt32 >>> ((nI 16).toUInt32 &&& Int32.toUInt32 31)).toInt32)) &&& (nI 63)
theorem c_bitc (l : Launch) (E : gE) (x : St) (b : Int32) : Ct l yJ6_bitCount_0f7a4 wsJ6_bitCount_0f7a4 { frames := 0, cells := 0, slots := 0, locals := 0 } E [.int b] x (fun u y => u = some (.int (bitc b)) ∧ y = x) 0 0 := c_J6_bitCount_0f7a4 l E x b
theorem in_X1_processRead_X1 : ∀ w ∈ wsX10, w ∈ wsX1_processRead := by decide +kernel
theorem in_X1_processRead_X2 : ∀ w ∈ wsX20, w ∈ wsX1_processRead := by decide +kernel
theorem lk_X1_processRead_22 : Cond.fieldLink RX1 22 "CacheDirectory$Home" "ownerCache" "I" ∈ wsX1_processRead := by decide +kernel
theorem lk_X1_processRead_41 : Cond.fieldLink RX1 41 "CacheDirectory$Home" "network" "LCacheDirectory$Network;" ∈ wsX1_processRead := by decide +kernel
theorem lk_X1_processRead_38 : Cond.fieldLink RX1 38 "CacheDirectory$Home" "line" "I" ∈ wsX1_processRead := by decide +kernel
theorem lk_X1_processRead_92 : Cond.fieldLink RX1 92 "CacheDirectory$Message" "requester" "I" ∈ wsX1_processRead := by decide +kernel
theorem lk_X1_processRead_25 : Cond.fieldLink RX1 25 "CacheDirectory$Home" "sharerSet" "I" ∈ wsX1_processRead := by decide +kernel
theorem lk_X1_processRead_28 : Cond.fieldLink RX1 28 "CacheDirectory$Home" "busy" "Z" ∈ wsX1_processRead := by decide +kernel
theorem lk_X1_processRead_18 : Cond.fieldLink RX1 18 "CacheDirectory$Home" "memoryValue" "I" ∈ wsX1_processRead := by decide +kernel
theorem lk_X1_processRead_89 : Cond.fieldLink RX1 89 "CacheDirectory$Message" "carried" "I" ∈ wsX1_processRead := by decide +kernel
def s_X1_processRead (v : Vw) (j : Nat) (r : Int32) : Vw :=
  if (v.x.FH j 4) = ((-1 : Int32)) then
    let x4 := vFH v j 5 ((v.x.FH j 5) ||| ((nI 1) <<< (r &&& 31)))
    let x5 := vFH x4 j 6 (nI 1)
    let x6 := vsend x5 (va_up (mkM (nI 5) (nI j) ((-1 : Int32)) r) 4 (v.x.FH j 3))
    x6
  else
    let x1 := vFH v j 5 ((v.x.FH j 5) ||| ((nI 1) <<< (r &&& 31)))
    let x2 := vFH x1 j 6 (nI 1)
    let x3 := vsend x2 (va_up (mkM (nI 8) (nI j) ((-1 : Int32)) (v.x.FH j 4)) 6 r)
    x3
set_option maxRecDepth 100000 in
set_option maxHeartbeats 400000 in
theorem c_X1_processRead (l : Launch) (E : gE) (x : St) (v : Vw) (hs : List (Nat × M7)) (hV : VW x v [] hs) (j : Nat) (r : Int32) (hj : j < 16) (hn : (v.q 16).length ≤ 63) : Ct l yX1_processRead wsX1_processRead { frames := 8, cells := 2, slots := 103, locals := 260 } E [.ref (aH E j), .int r] x (fun u y => u = none ∧ VW y (s_X1_processRead v j r) [] hs) 2 103 := by
  refine Ct.of (cc := cX1_processRead) (nL := 2) (ret := none) (by decide) rfl (Nat.le_of_ble_eq_true rfl) ?_
  intro p e s m args below meth c h hr hk hname
  refine g_lvs (lv' := [(0, _), (1, _)]) rfl ?_
  refine g_aload_n h 0 dX1_processRead_0 rfl rfl ?_
  refine g_get (C := RX1) (T := TX1) (N := 9) h 4 (wat_H E _ (by omega)) rfl in_X1_processRead_X1 (by decide) lk_X1_processRead_22 rfl rfl dX1_processRead_1 ?_
  refine g_eqi (hV.FH _ _) ?_
  refine g_iconst (v := -1) h dX1_processRead_4 (by decide) ?_
  refine g_icmp_ne h 32 dX1_processRead_5 (by decide) (fun c_5 => ?_) (fun c_5 => ?_)
  · skip
    refine g_aload_n h 0 dX1_processRead_32 rfl rfl ?_
    refine g_get (C := RX1) (T := TX1) (N := 9) h 1 (wat_H E _ (by omega)) rfl in_X1_processRead_X1 (by decide) lk_X1_processRead_41 rfl rfl dX1_processRead_33 ?_
    refine g_bipush (v := nI 8) h dX1_processRead_36 (by decide) ?_
    refine g_aload_n h 0 dX1_processRead_38 rfl rfl ?_
    refine g_get (C := RX1) (T := TX1) (N := 9) h 0 (wat_H E _ (by omega)) rfl in_X1_processRead_X1 (by decide) lk_X1_processRead_38 rfl rfl dX1_processRead_39 ?_
    refine g_iconst (v := -1) h dX1_processRead_42 (by decide) ?_
    refine g_aload_n h 0 dX1_processRead_43 rfl rfl ?_
    refine g_get (C := RX1) (T := TX1) (N := 9) h 4 (wat_H E _ (by omega)) rfl in_X1_processRead_X1 (by decide) lk_X1_processRead_22 rfl rfl dX1_processRead_44 ?_
    refine g_eqi (hV.FH _ _) ?_
    refine g_callV (As := [.int (nI 8), .int (nI j), .int _, .int _]) (C := RX3) h 4 (c_X3_send l E _ _ _ _ _ _ _ hV (hn)) rfl gX1_processRead_X3_send rfl rfl rfl rfl (by decide +kernel) ⟨Nat.le_of_ble_eq_true rfl, Nat.le_of_ble_eq_true rfl⟩ (wat_N E _) rfl rfl dX1_processRead_47 ⟨by dsimp only; omega, by dsimp only; omega⟩ (Nat.le_of_ble_eq_true rfl) ?_
    rintro _ y ⟨g47, rfl, hV⟩
    dsimp only [Option.toList, List.cons_append, List.nil_append]
    refine g_iload_n h 1 dX1_processRead_50 rfl rfl ?_
    refine g_put (C := RX2) (T := TX2) (N := 7) h 6 tyX2 (ws_Ms6 E _ hV.pend.1 hV.pend.2.1 _) rfl in_X1_processRead_X2 tyX2_ok nmX2 (by decide) lk_X1_processRead_92 rfl rfl rfl rfl rfl (Nat.le_of_ble_eq_true rfl) dX1_processRead_51 ?_
    refine g_gen hV.setMF (fun y hV => ?_)
    refine g_aload_n h 0 dX1_processRead_54 rfl rfl ?_
    refine g_dup h dX1_processRead_55 rfl ?_
    refine g_get (C := RX1) (T := TX1) (N := 9) h 5 (wat_H E _ (by omega)) rfl in_X1_processRead_X1 (by decide) lk_X1_processRead_25 rfl rfl dX1_processRead_56 ?_
    refine g_eqi (hV.FH _ _) ?_
    refine g_iconst (v := nI 1) h dX1_processRead_59 (by decide) ?_
    refine g_iload_n h 1 dX1_processRead_60 rfl rfl ?_
    refine g_ishl h dX1_processRead_61 ?_
    refine g_ior h dX1_processRead_62 ?_
    refine g_put (C := RX1) (T := TX1) (N := 9) h 5 tyX1 (ws_H5 E _ (by omega) _) rfl in_X1_processRead_X1 tyX1_ok nmX1 (by decide) lk_X1_processRead_25 rfl rfl rfl rfl rfl (Nat.le_of_ble_eq_true rfl) dX1_processRead_63 ?_
    refine g_gen hV.setFH (fun y hV => ?_)
    refine g_aload_n h 0 dX1_processRead_66 rfl rfl ?_
    refine g_iconst (v := nI 1) h dX1_processRead_67 (by decide) ?_
    refine g_put (C := RX1) (T := TX1) (N := 9) h 6 tyX1 (ws_H6 E _ (by omega) _) rfl in_X1_processRead_X1 tyX1_ok nmX1 (by decide) lk_X1_processRead_28 rfl rfl rfl (by decide) (by decide) (Nat.le_of_ble_eq_true rfl) dX1_processRead_68 ?_
    refine g_gen hV.setFH (fun y hV => ?_)
    have hV := hV.close
    exact g_vret h hr hk dX1_processRead_71 (by omega) (by omega) ⟨rfl, hV.cast (Eq.symm (if_neg c_5))⟩
  · skip
    refine g_aload_n h 0 dX1_processRead_8 rfl rfl ?_
    refine g_get (C := RX1) (T := TX1) (N := 9) h 1 (wat_H E _ (by omega)) rfl in_X1_processRead_X1 (by decide) lk_X1_processRead_41 rfl rfl dX1_processRead_9 ?_
    refine g_iconst (v := nI 5) h dX1_processRead_12 (by decide) ?_
    refine g_aload_n h 0 dX1_processRead_13 rfl rfl ?_
    refine g_get (C := RX1) (T := TX1) (N := 9) h 0 (wat_H E _ (by omega)) rfl in_X1_processRead_X1 (by decide) lk_X1_processRead_38 rfl rfl dX1_processRead_14 ?_
    refine g_iconst (v := -1) h dX1_processRead_17 (by decide) ?_
    refine g_iload_n h 1 dX1_processRead_18 rfl rfl ?_
    refine g_callV (As := [.int (nI 5), .int (nI j), .int _, .int _]) (C := RX3) h 4 (c_X3_send l E _ _ _ _ _ _ _ hV (hn)) rfl gX1_processRead_X3_send rfl rfl rfl rfl (by decide +kernel) ⟨Nat.le_of_ble_eq_true rfl, Nat.le_of_ble_eq_true rfl⟩ (wat_N E _) rfl rfl dX1_processRead_19 ⟨by dsimp only; omega, by dsimp only; omega⟩ (Nat.le_of_ble_eq_true rfl) ?_
    rintro _ y ⟨g19, rfl, hV⟩
    dsimp only [Option.toList, List.cons_append, List.nil_append]
    refine g_aload_n h 0 dX1_processRead_22 rfl rfl ?_
    refine g_get (C := RX1) (T := TX1) (N := 9) h 3 (wat_H E _ (by omega)) rfl in_X1_processRead_X1 (by decide) lk_X1_processRead_18 rfl rfl dX1_processRead_23 ?_
    refine g_eqi (hV.FH _ _) ?_
    refine g_put (C := RX2) (T := TX2) (N := 7) h 4 tyX2 (ws_Ms4 E _ hV.pend.1 hV.pend.2.1 _) rfl in_X1_processRead_X2 tyX2_ok nmX2 (by decide) lk_X1_processRead_89 rfl rfl rfl rfl rfl (Nat.le_of_ble_eq_true rfl) dX1_processRead_26 ?_
    refine g_gen hV.setMF (fun y hV => ?_)
    refine g_goto h 54 dX1_processRead_29 (by decide) ?_
    refine g_aload_n h 0 dX1_processRead_54 rfl rfl ?_
    refine g_dup h dX1_processRead_55 rfl ?_
    refine g_get (C := RX1) (T := TX1) (N := 9) h 5 (wat_H E _ (by omega)) rfl in_X1_processRead_X1 (by decide) lk_X1_processRead_25 rfl rfl dX1_processRead_56 ?_
    refine g_eqi (hV.FH _ _) ?_
    refine g_iconst (v := nI 1) h dX1_processRead_59 (by decide) ?_
    refine g_iload_n h 1 dX1_processRead_60 rfl rfl ?_
    refine g_ishl h dX1_processRead_61 ?_
    refine g_ior h dX1_processRead_62 ?_
    refine g_put (C := RX1) (T := TX1) (N := 9) h 5 tyX1 (ws_H5 E _ (by omega) _) rfl in_X1_processRead_X1 tyX1_ok nmX1 (by decide) lk_X1_processRead_25 rfl rfl rfl rfl rfl (Nat.le_of_ble_eq_true rfl) dX1_processRead_63 ?_
    refine g_gen hV.setFH (fun y hV => ?_)
    refine g_aload_n h 0 dX1_processRead_66 rfl rfl ?_
    refine g_iconst (v := nI 1) h dX1_processRead_67 (by decide) ?_
    refine g_put (C := RX1) (T := TX1) (N := 9) h 6 tyX1 (ws_H6 E _ (by omega) _) rfl in_X1_processRead_X1 tyX1_ok nmX1 (by decide) lk_X1_processRead_28 rfl rfl rfl (by decide) (by decide) (Nat.le_of_ble_eq_true rfl) dX1_processRead_68 ?_
    refine g_gen hV.setFH (fun y hV => ?_)
    have hV := hV.close
    exact g_vret h hr hk dX1_processRead_71 (by omega) (by omega) ⟨rfl, hV.cast (Eq.symm (if_pos c_5))⟩
theorem in_X1_processWrite_X1 : ∀ w ∈ wsX10, w ∈ wsX1_processWrite := by decide +kernel
theorem in_X1_processWrite_X2 : ∀ w ∈ wsX20, w ∈ wsX1_processWrite := by decide +kernel
theorem lk_X1_processWrite_25 : Cond.fieldLink RX1 25 "CacheDirectory$Home" "sharerSet" "I" ∈ wsX1_processWrite := by decide +kernel
theorem lk_X1_processWrite_22 : Cond.fieldLink RX1 22 "CacheDirectory$Home" "ownerCache" "I" ∈ wsX1_processWrite := by decide +kernel
theorem lk_X1_processWrite_41 : Cond.fieldLink RX1 41 "CacheDirectory$Home" "network" "LCacheDirectory$Network;" ∈ wsX1_processWrite := by decide +kernel
theorem lk_X1_processWrite_38 : Cond.fieldLink RX1 38 "CacheDirectory$Home" "line" "I" ∈ wsX1_processWrite := by decide +kernel
theorem lk_X1_processWrite_92 : Cond.fieldLink RX1 92 "CacheDirectory$Message" "requester" "I" ∈ wsX1_processWrite := by decide +kernel
theorem lk_X1_processWrite_101 : Cond.fieldLink RX1 101 "CacheDirectory$Message" "count" "I" ∈ wsX1_processWrite := by decide +kernel
theorem lk_X1_processWrite_28 : Cond.fieldLink RX1 28 "CacheDirectory$Home" "busy" "Z" ∈ wsX1_processWrite := by decide +kernel
theorem lk_X1_processWrite_18 : Cond.fieldLink RX1 18 "CacheDirectory$Home" "memoryValue" "I" ∈ wsX1_processWrite := by decide +kernel
theorem lk_X1_processWrite_89 : Cond.fieldLink RX1 89 "CacheDirectory$Message" "carried" "I" ∈ wsX1_processWrite := by decide +kernel
def oth (v : Vw) (j : Nat) (r : Int32) : Int32 :=
  if (v.x.FH j 4) = ((-1 : Int32)) then
    (v.x.FH j 5) &&& (((nI 1) <<< (r &&& 31)) ^^^ ((-1 : Int32)))
  else
    ((v.x.FH j 5) &&& (((nI 1) <<< (r &&& 31)) ^^^ ((-1 : Int32)))) &&& (((nI 1) <<< ((v.x.FH j 4) &&& 31)) ^^^ ((-1 : Int32)))
def lp_X1_processWrite_32 (v : Vw) (j : Nat) (r : Int32) (b32_0 : Vw) : Nat → Vw
  | 0 => b32_0
  | a32 + 1 =>
  if (((oth v j r) >>> ((nI a32) &&& 31)) &&& (nI 1)) = (nI 1) then
    let x13 := vsend ((lp_X1_processWrite_32 v j r b32_0 a32)) (va_up (mkM (nI 10) (nI j) ((-1 : Int32)) (nI a32)) 6 r)
    x13
  else
    (lp_X1_processWrite_32 v j r b32_0 a32)
theorem len_lp_pw {v : Vw} {j : Nat} {r : Int32} {b0 : Vw} : ∀ a, ((lp_X1_processWrite_32 v j r b0 a).q 16).length ≤ (b0.q 16).length + a := by
  intro a
  induction a with
  | zero => exact Nat.le_refl _
  | succ a ih =>
    unfold lp_X1_processWrite_32
    split
    · simp only [len_send]
      omega
    · omega
def s_X1_processWrite (v : Vw) (j : Nat) (r : Int32) : Vw :=
  if (((lp_X1_processWrite_32 v j r v 4)).x.FH j 4) = ((-1 : Int32)) then
    let x9 := vFH ((lp_X1_processWrite_32 v j r v 4)) j 4 r
    let x10 := vFH x9 j 5 (nI 0)
    let x11 := vFH x10 j 6 (nI 1)
    let x12 := vsend x11 (va_up (va_up (mkM (nI 5) (nI j) ((-1 : Int32)) r) 4 (((lp_X1_processWrite_32 v j r v 4)).x.FH j 3)) 5 (bitc (oth v j r)))
    x12
  else
    if (((lp_X1_processWrite_32 v j r v 4)).x.FH j 4) = r then
      let x5 := vFH ((lp_X1_processWrite_32 v j r v 4)) j 4 r
      let x6 := vFH x5 j 5 (nI 0)
      let x7 := vFH x6 j 6 (nI 1)
      let x8 := vsend x7 (va_up (mkM (nI 6) (nI j) ((-1 : Int32)) r) 5 (bitc (oth v j r)))
      x8
    else
      let x1 := vFH ((lp_X1_processWrite_32 v j r v 4)) j 4 r
      let x2 := vFH x1 j 5 (nI 0)
      let x3 := vFH x2 j 6 (nI 1)
      let x4 := vsend x3 (va_up (va_up (mkM (nI 9) (nI j) ((-1 : Int32)) (((lp_X1_processWrite_32 v j r v 4)).x.FH j 4)) 6 r) 5 (bitc (oth v j r)))
      x4
set_option maxRecDepth 100000 in
set_option maxHeartbeats 400000 in
theorem c_X1_processWrite (l : Launch) (E : gE) (x : St) (v : Vw) (hs : List (Nat × M7)) (hV : VW x v [] hs) (j : Nat) (r : Int32) (hj : j < 16) (hn : (v.q 16).length ≤ 59) : Ct l yX1_processWrite wsX1_processWrite { frames := 8, cells := 10, slots := 515, locals := 260 } E [.ref (aH E j), .int r] x (fun u y => u = none ∧ VW y (s_X1_processWrite v j r) [] hs) 10 515 := by
  refine Ct.of (cc := cX1_processWrite) (nL := 4) (ret := none) (by decide) rfl (Nat.le_of_ble_eq_true rfl) ?_
  intro p e s m args below meth c h hr hk hname
  refine g_lvs (lv' := [(0, _), (1, _)]) rfl ?_
  refine g_aload_n h 0 dX1_processWrite_0 rfl rfl ?_
  refine g_get (C := RX1) (T := TX1) (N := 9) h 5 (wat_H E _ (by omega)) rfl in_X1_processWrite_X1 (by decide) lk_X1_processWrite_25 rfl rfl dX1_processWrite_1 ?_
  refine g_eqi (hV.FH _ _) ?_
  refine g_iconst (v := nI 1) h dX1_processWrite_4 (by decide) ?_
  refine g_iload_n h 1 dX1_processWrite_5 rfl rfl ?_
  refine g_ishl h dX1_processWrite_6 ?_
  refine g_iconst (v := -1) h dX1_processWrite_7 (by decide) ?_
  refine g_ixor h dX1_processWrite_8 ?_
  refine g_iand h dX1_processWrite_9 ?_
  refine g_istore_n (lv' := [(0, _), (1, _), (2, _)]) h [1, 2, 0] dX1_processWrite_10 rfl (by decide) rfl ?_
  suffices hj30 : gG p l e ({ frames := 8, cells := 10, slots := 515, locals := 260 } : Room) s m args below meth c (gQ below E x s (fun u y => u = none ∧ VW y (s_X1_processWrite v j r) [] hs) args 10 515) E x 4 0 0 x 30 [(0, .ref (aH E j)), (1, .int r), (2, .int (oth v j r))] [] by
    refine g_aload_n h 0 dX1_processWrite_11 rfl rfl ?_
    refine g_get (C := RX1) (T := TX1) (N := 9) h 4 (wat_H E _ (by omega)) rfl in_X1_processWrite_X1 (by decide) lk_X1_processWrite_22 rfl rfl dX1_processWrite_12 ?_
    refine g_eqi (hV.FH _ _) ?_
    refine g_iconst (v := -1) h dX1_processWrite_15 (by decide) ?_
    refine g_icmp_eq h 30 dX1_processWrite_16 (by decide) (fun c_16 => ?_) (fun c_16 => ?_)
    · skip
      refine g_lvs (lv' := [(0, .ref (aH E j)), (1, .int r), (2, .int (oth v j r))]) (by rw [show oth v j r = (v.x.FH j 5) &&& (((nI 1) <<< (r &&& 31)) ^^^ ((-1 : Int32))) from (if_pos c_16)]) ?_
      exact hj30
    · skip
      refine g_iload_n h 2 dX1_processWrite_19 rfl rfl ?_
      refine g_iconst (v := nI 1) h dX1_processWrite_20 (by decide) ?_
      refine g_aload_n h 0 dX1_processWrite_21 rfl rfl ?_
      refine g_get (C := RX1) (T := TX1) (N := 9) h 4 (wat_H E _ (by omega)) rfl in_X1_processWrite_X1 (by decide) lk_X1_processWrite_22 rfl rfl dX1_processWrite_22 ?_
      refine g_eqi (hV.FH _ _) ?_
      refine g_ishl h dX1_processWrite_25 ?_
      refine g_iconst (v := -1) h dX1_processWrite_26 (by decide) ?_
      refine g_ixor h dX1_processWrite_27 ?_
      refine g_iand h dX1_processWrite_28 ?_
      refine g_istore_n (lv' := [(0, _), (1, _), (2, _)]) h [1, 2, 0] dX1_processWrite_29 rfl (by decide) rfl ?_
      refine g_lvs (lv' := [(0, .ref (aH E j)), (1, .int r), (2, .int (oth v j r))]) (by rw [show oth v j r = ((v.x.FH j 5) &&& (((nI 1) <<< (r &&& 31)) ^^^ ((-1 : Int32)))) &&& (((nI 1) <<< ((v.x.FH j 4) &&& 31)) ^^^ ((-1 : Int32))) from (if_neg c_16)]) ?_
      exact hj30
  refine g_iconst (v := nI 0) h dX1_processWrite_30 (by decide) ?_
  refine g_istore_n (lv' := [(0, _), (1, _), (2, _), (3, _)]) h [1, 2, 3, 0] dX1_processWrite_31 rfl (by decide) rfl ?_
  have loop32 : ∀ (k32 a32 : Nat) (y : St), (4) - a32 < k32 → a32 ≤ 4 → VW y ((lp_X1_processWrite_32 v j r v a32)) [] hs → gG p l e ({ frames := 8, cells := 10, slots := 515, locals := 260 } : Room) s m args below meth c (gQ below E x s (fun u y => u = none ∧ VW y (s_X1_processWrite v j r) [] hs) args 10 515) E x 4 (2 * a32) (103 * a32) y 32 [(0, .ref (aH E j)), (1, .int r), (2, .int (oth v j r)), (3, .int (nI a32))] [] := by
    intro k32
    induction k32 with
    | zero => intro a32 y hk32; exact absurd hk32 (by omega)
    | succ k32 ih32 =>
      intro a32 y hk32 ha32 hV
      refine g_iload_n h 3 dX1_processWrite_32 rfl rfl ?_
      refine g_iconst (v := nI 4) h dX1_processWrite_33 (by decide) ?_
      refine g_icmp_geN h 71 dX1_processWrite_34 (by decide) (by omega) (by omega) (fun c_34 => ?_) (fun c_34 => ?_)
      · skip
        obtain rfl : a32 = 4 := by omega
        refine g_aload_n h 0 dX1_processWrite_71 rfl rfl ?_
        refine g_get (C := RX1) (T := TX1) (N := 9) h 4 (wat_H E _ (by omega)) rfl in_X1_processWrite_X1 (by decide) lk_X1_processWrite_22 rfl rfl dX1_processWrite_72 ?_
        refine g_eqi (hV.FH _ _) ?_
        refine g_iconst (v := -1) h dX1_processWrite_75 (by decide) ?_
        refine g_icmp_ne h 105 dX1_processWrite_76 (by decide) (fun c_76 => ?_) (fun c_76 => ?_)
        · skip
          refine g_aload_n h 0 dX1_processWrite_105 rfl rfl ?_
          refine g_get (C := RX1) (T := TX1) (N := 9) h 4 (wat_H E _ (by omega)) rfl in_X1_processWrite_X1 (by decide) lk_X1_processWrite_22 rfl rfl dX1_processWrite_106 ?_
          refine g_eqi (hV.FH _ _) ?_
          refine g_iload_n h 1 dX1_processWrite_109 rfl rfl ?_
          refine g_icmp_ne h 132 dX1_processWrite_110 (by decide) (fun c_110 => ?_) (fun c_110 => ?_)
          · skip
            refine g_aload_n h 0 dX1_processWrite_132 rfl rfl ?_
            refine g_get (C := RX1) (T := TX1) (N := 9) h 1 (wat_H E _ (by omega)) rfl in_X1_processWrite_X1 (by decide) lk_X1_processWrite_41 rfl rfl dX1_processWrite_133 ?_
            refine g_bipush (v := nI 9) h dX1_processWrite_136 (by decide) ?_
            refine g_aload_n h 0 dX1_processWrite_138 rfl rfl ?_
            refine g_get (C := RX1) (T := TX1) (N := 9) h 0 (wat_H E _ (by omega)) rfl in_X1_processWrite_X1 (by decide) lk_X1_processWrite_38 rfl rfl dX1_processWrite_139 ?_
            refine g_iconst (v := -1) h dX1_processWrite_142 (by decide) ?_
            refine g_aload_n h 0 dX1_processWrite_143 rfl rfl ?_
            refine g_get (C := RX1) (T := TX1) (N := 9) h 4 (wat_H E _ (by omega)) rfl in_X1_processWrite_X1 (by decide) lk_X1_processWrite_22 rfl rfl dX1_processWrite_144 ?_
            refine g_eqi (hV.FH _ _) ?_
            refine g_callV (As := [.int (nI 9), .int (nI j), .int _, .int _]) (C := RX3) h 4 (c_X3_send l E _ _ _ _ _ _ _ hV (by have := len_lp_pw (v := v) (j := j) (r := r) (b0 := v) 4; omega)) rfl gX1_processWrite_X3_send rfl rfl rfl rfl (by decide +kernel) ⟨Nat.le_of_ble_eq_true rfl, Nat.le_of_ble_eq_true rfl⟩ (wat_N E _) rfl rfl dX1_processWrite_147 ⟨by dsimp only; omega, by dsimp only; omega⟩ (Nat.le_of_ble_eq_true rfl) ?_
            rintro _ y ⟨g147, rfl, hV⟩
            dsimp only [Option.toList, List.cons_append, List.nil_append]
            refine g_astore_n (lv' := [(0, _), (1, _), (2, _), (3, _)]) h [1, 2, 3, 0] dX1_processWrite_150 rfl (by decide) rfl ?_
            refine g_aload_n h 3 dX1_processWrite_151 rfl rfl ?_
            refine g_iload_n h 1 dX1_processWrite_152 rfl rfl ?_
            refine g_put (C := RX2) (T := TX2) (N := 7) h 6 tyX2 (ws_Ms6 E _ hV.pend.1 hV.pend.2.1 _) rfl in_X1_processWrite_X2 tyX2_ok nmX2 (by decide) lk_X1_processWrite_92 rfl rfl rfl rfl rfl (Nat.le_of_ble_eq_true rfl) dX1_processWrite_153 ?_
            refine g_gen hV.setMF (fun y hV => ?_)
            refine g_aload_n h 3 dX1_processWrite_156 rfl rfl ?_
            refine g_iload_n h 2 dX1_processWrite_157 rfl rfl ?_
            refine g_callS (As := [.int _]) h 1 (c_bitc l E _ _) rfl gX1_processWrite_J6_bitCount_0f7a4 rfl rfl rfl rfl (by decide +kernel) ⟨Nat.le_of_ble_eq_true rfl, Nat.le_of_ble_eq_true rfl⟩ dX1_processWrite_158 ⟨by dsimp only; omega, by dsimp only; omega⟩ (Nat.le_of_ble_eq_true rfl) ?_
            rintro _ _ ⟨rfl, hy⟩
            obtain rfl := hy.symm
            dsimp only [Option.toList, List.cons_append, List.nil_append]
            refine g_put (C := RX2) (T := TX2) (N := 7) h 5 tyX2 (ws_Ms5 E _ hV.pend.1 hV.pend.2.1 _) rfl in_X1_processWrite_X2 tyX2_ok nmX2 (by decide) lk_X1_processWrite_101 rfl rfl rfl rfl rfl (Nat.le_of_ble_eq_true rfl) dX1_processWrite_161 ?_
            refine g_gen hV.setMF (fun y hV => ?_)
            refine g_aload_n h 0 dX1_processWrite_164 rfl rfl ?_
            refine g_iload_n h 1 dX1_processWrite_165 rfl rfl ?_
            refine g_put (C := RX1) (T := TX1) (N := 9) h 4 tyX1 (ws_H4 E _ (by omega) _) rfl in_X1_processWrite_X1 tyX1_ok nmX1 (by decide) lk_X1_processWrite_22 rfl rfl rfl rfl rfl (Nat.le_of_ble_eq_true rfl) dX1_processWrite_166 ?_
            refine g_gen hV.setFH (fun y hV => ?_)
            refine g_aload_n h 0 dX1_processWrite_169 rfl rfl ?_
            refine g_iconst (v := nI 0) h dX1_processWrite_170 (by decide) ?_
            refine g_put (C := RX1) (T := TX1) (N := 9) h 5 tyX1 (ws_H5 E _ (by omega) _) rfl in_X1_processWrite_X1 tyX1_ok nmX1 (by decide) lk_X1_processWrite_25 rfl rfl rfl rfl rfl (Nat.le_of_ble_eq_true rfl) dX1_processWrite_171 ?_
            refine g_gen hV.setFH (fun y hV => ?_)
            refine g_aload_n h 0 dX1_processWrite_174 rfl rfl ?_
            refine g_iconst (v := nI 1) h dX1_processWrite_175 (by decide) ?_
            refine g_put (C := RX1) (T := TX1) (N := 9) h 6 tyX1 (ws_H6 E _ (by omega) _) rfl in_X1_processWrite_X1 tyX1_ok nmX1 (by decide) lk_X1_processWrite_28 rfl rfl rfl (by decide) (by decide) (Nat.le_of_ble_eq_true rfl) dX1_processWrite_176 ?_
            refine g_gen hV.setFH (fun y hV => ?_)
            have hV := hV.close
            exact g_vret h hr hk dX1_processWrite_179 (by omega) (by omega) ⟨rfl, hV.cast (Eq.symm (Eq.trans (if_neg c_76) (if_neg c_110)))⟩
          · skip
            refine g_aload_n h 0 dX1_processWrite_113 rfl rfl ?_
            refine g_get (C := RX1) (T := TX1) (N := 9) h 1 (wat_H E _ (by omega)) rfl in_X1_processWrite_X1 (by decide) lk_X1_processWrite_41 rfl rfl dX1_processWrite_114 ?_
            refine g_bipush (v := nI 6) h dX1_processWrite_117 (by decide) ?_
            refine g_aload_n h 0 dX1_processWrite_119 rfl rfl ?_
            refine g_get (C := RX1) (T := TX1) (N := 9) h 0 (wat_H E _ (by omega)) rfl in_X1_processWrite_X1 (by decide) lk_X1_processWrite_38 rfl rfl dX1_processWrite_120 ?_
            refine g_iconst (v := -1) h dX1_processWrite_123 (by decide) ?_
            refine g_iload_n h 1 dX1_processWrite_124 rfl rfl ?_
            refine g_callV (As := [.int (nI 6), .int (nI j), .int _, .int _]) (C := RX3) h 4 (c_X3_send l E _ _ _ _ _ _ _ hV (by have := len_lp_pw (v := v) (j := j) (r := r) (b0 := v) 4; omega)) rfl gX1_processWrite_X3_send rfl rfl rfl rfl (by decide +kernel) ⟨Nat.le_of_ble_eq_true rfl, Nat.le_of_ble_eq_true rfl⟩ (wat_N E _) rfl rfl dX1_processWrite_125 ⟨by dsimp only; omega, by dsimp only; omega⟩ (Nat.le_of_ble_eq_true rfl) ?_
            rintro _ y ⟨g125, rfl, hV⟩
            dsimp only [Option.toList, List.cons_append, List.nil_append]
            refine g_astore_n (lv' := [(0, _), (1, _), (2, _), (3, _)]) h [1, 2, 3, 0] dX1_processWrite_128 rfl (by decide) rfl ?_
            refine g_goto h 156 dX1_processWrite_129 (by decide) ?_
            refine g_aload_n h 3 dX1_processWrite_156 rfl rfl ?_
            refine g_iload_n h 2 dX1_processWrite_157 rfl rfl ?_
            refine g_callS (As := [.int _]) h 1 (c_bitc l E _ _) rfl gX1_processWrite_J6_bitCount_0f7a4 rfl rfl rfl rfl (by decide +kernel) ⟨Nat.le_of_ble_eq_true rfl, Nat.le_of_ble_eq_true rfl⟩ dX1_processWrite_158 ⟨by dsimp only; omega, by dsimp only; omega⟩ (Nat.le_of_ble_eq_true rfl) ?_
            rintro _ _ ⟨rfl, hy⟩
            obtain rfl := hy.symm
            dsimp only [Option.toList, List.cons_append, List.nil_append]
            refine g_put (C := RX2) (T := TX2) (N := 7) h 5 tyX2 (ws_Ms5 E _ hV.pend.1 hV.pend.2.1 _) rfl in_X1_processWrite_X2 tyX2_ok nmX2 (by decide) lk_X1_processWrite_101 rfl rfl rfl rfl rfl (Nat.le_of_ble_eq_true rfl) dX1_processWrite_161 ?_
            refine g_gen hV.setMF (fun y hV => ?_)
            refine g_aload_n h 0 dX1_processWrite_164 rfl rfl ?_
            refine g_iload_n h 1 dX1_processWrite_165 rfl rfl ?_
            refine g_put (C := RX1) (T := TX1) (N := 9) h 4 tyX1 (ws_H4 E _ (by omega) _) rfl in_X1_processWrite_X1 tyX1_ok nmX1 (by decide) lk_X1_processWrite_22 rfl rfl rfl rfl rfl (Nat.le_of_ble_eq_true rfl) dX1_processWrite_166 ?_
            refine g_gen hV.setFH (fun y hV => ?_)
            refine g_aload_n h 0 dX1_processWrite_169 rfl rfl ?_
            refine g_iconst (v := nI 0) h dX1_processWrite_170 (by decide) ?_
            refine g_put (C := RX1) (T := TX1) (N := 9) h 5 tyX1 (ws_H5 E _ (by omega) _) rfl in_X1_processWrite_X1 tyX1_ok nmX1 (by decide) lk_X1_processWrite_25 rfl rfl rfl rfl rfl (Nat.le_of_ble_eq_true rfl) dX1_processWrite_171 ?_
            refine g_gen hV.setFH (fun y hV => ?_)
            refine g_aload_n h 0 dX1_processWrite_174 rfl rfl ?_
            refine g_iconst (v := nI 1) h dX1_processWrite_175 (by decide) ?_
            refine g_put (C := RX1) (T := TX1) (N := 9) h 6 tyX1 (ws_H6 E _ (by omega) _) rfl in_X1_processWrite_X1 tyX1_ok nmX1 (by decide) lk_X1_processWrite_28 rfl rfl rfl (by decide) (by decide) (Nat.le_of_ble_eq_true rfl) dX1_processWrite_176 ?_
            refine g_gen hV.setFH (fun y hV => ?_)
            have hV := hV.close
            exact g_vret h hr hk dX1_processWrite_179 (by omega) (by omega) ⟨rfl, hV.cast (Eq.symm (Eq.trans (if_neg c_76) (if_pos c_110)))⟩
        · skip
          refine g_aload_n h 0 dX1_processWrite_79 rfl rfl ?_
          refine g_get (C := RX1) (T := TX1) (N := 9) h 1 (wat_H E _ (by omega)) rfl in_X1_processWrite_X1 (by decide) lk_X1_processWrite_41 rfl rfl dX1_processWrite_80 ?_
          refine g_iconst (v := nI 5) h dX1_processWrite_83 (by decide) ?_
          refine g_aload_n h 0 dX1_processWrite_84 rfl rfl ?_
          refine g_get (C := RX1) (T := TX1) (N := 9) h 0 (wat_H E _ (by omega)) rfl in_X1_processWrite_X1 (by decide) lk_X1_processWrite_38 rfl rfl dX1_processWrite_85 ?_
          refine g_iconst (v := -1) h dX1_processWrite_88 (by decide) ?_
          refine g_iload_n h 1 dX1_processWrite_89 rfl rfl ?_
          refine g_callV (As := [.int (nI 5), .int (nI j), .int _, .int _]) (C := RX3) h 4 (c_X3_send l E _ _ _ _ _ _ _ hV (by have := len_lp_pw (v := v) (j := j) (r := r) (b0 := v) 4; omega)) rfl gX1_processWrite_X3_send rfl rfl rfl rfl (by decide +kernel) ⟨Nat.le_of_ble_eq_true rfl, Nat.le_of_ble_eq_true rfl⟩ (wat_N E _) rfl rfl dX1_processWrite_90 ⟨by dsimp only; omega, by dsimp only; omega⟩ (Nat.le_of_ble_eq_true rfl) ?_
          rintro _ y ⟨g90, rfl, hV⟩
          dsimp only [Option.toList, List.cons_append, List.nil_append]
          refine g_astore_n (lv' := [(0, _), (1, _), (2, _), (3, _)]) h [1, 2, 3, 0] dX1_processWrite_93 rfl (by decide) rfl ?_
          refine g_aload_n h 3 dX1_processWrite_94 rfl rfl ?_
          refine g_aload_n h 0 dX1_processWrite_95 rfl rfl ?_
          refine g_get (C := RX1) (T := TX1) (N := 9) h 3 (wat_H E _ (by omega)) rfl in_X1_processWrite_X1 (by decide) lk_X1_processWrite_18 rfl rfl dX1_processWrite_96 ?_
          refine g_eqi (hV.FH _ _) ?_
          refine g_put (C := RX2) (T := TX2) (N := 7) h 4 tyX2 (ws_Ms4 E _ hV.pend.1 hV.pend.2.1 _) rfl in_X1_processWrite_X2 tyX2_ok nmX2 (by decide) lk_X1_processWrite_89 rfl rfl rfl rfl rfl (Nat.le_of_ble_eq_true rfl) dX1_processWrite_99 ?_
          refine g_gen hV.setMF (fun y hV => ?_)
          refine g_goto h 156 dX1_processWrite_102 (by decide) ?_
          refine g_aload_n h 3 dX1_processWrite_156 rfl rfl ?_
          refine g_iload_n h 2 dX1_processWrite_157 rfl rfl ?_
          refine g_callS (As := [.int _]) h 1 (c_bitc l E _ _) rfl gX1_processWrite_J6_bitCount_0f7a4 rfl rfl rfl rfl (by decide +kernel) ⟨Nat.le_of_ble_eq_true rfl, Nat.le_of_ble_eq_true rfl⟩ dX1_processWrite_158 ⟨by dsimp only; omega, by dsimp only; omega⟩ (Nat.le_of_ble_eq_true rfl) ?_
          rintro _ _ ⟨rfl, hy⟩
          obtain rfl := hy.symm
          dsimp only [Option.toList, List.cons_append, List.nil_append]
          refine g_put (C := RX2) (T := TX2) (N := 7) h 5 tyX2 (ws_Ms5 E _ hV.pend.1 hV.pend.2.1 _) rfl in_X1_processWrite_X2 tyX2_ok nmX2 (by decide) lk_X1_processWrite_101 rfl rfl rfl rfl rfl (Nat.le_of_ble_eq_true rfl) dX1_processWrite_161 ?_
          refine g_gen hV.setMF (fun y hV => ?_)
          refine g_aload_n h 0 dX1_processWrite_164 rfl rfl ?_
          refine g_iload_n h 1 dX1_processWrite_165 rfl rfl ?_
          refine g_put (C := RX1) (T := TX1) (N := 9) h 4 tyX1 (ws_H4 E _ (by omega) _) rfl in_X1_processWrite_X1 tyX1_ok nmX1 (by decide) lk_X1_processWrite_22 rfl rfl rfl rfl rfl (Nat.le_of_ble_eq_true rfl) dX1_processWrite_166 ?_
          refine g_gen hV.setFH (fun y hV => ?_)
          refine g_aload_n h 0 dX1_processWrite_169 rfl rfl ?_
          refine g_iconst (v := nI 0) h dX1_processWrite_170 (by decide) ?_
          refine g_put (C := RX1) (T := TX1) (N := 9) h 5 tyX1 (ws_H5 E _ (by omega) _) rfl in_X1_processWrite_X1 tyX1_ok nmX1 (by decide) lk_X1_processWrite_25 rfl rfl rfl rfl rfl (Nat.le_of_ble_eq_true rfl) dX1_processWrite_171 ?_
          refine g_gen hV.setFH (fun y hV => ?_)
          refine g_aload_n h 0 dX1_processWrite_174 rfl rfl ?_
          refine g_iconst (v := nI 1) h dX1_processWrite_175 (by decide) ?_
          refine g_put (C := RX1) (T := TX1) (N := 9) h 6 tyX1 (ws_H6 E _ (by omega) _) rfl in_X1_processWrite_X1 tyX1_ok nmX1 (by decide) lk_X1_processWrite_28 rfl rfl rfl (by decide) (by decide) (Nat.le_of_ble_eq_true rfl) dX1_processWrite_176 ?_
          refine g_gen hV.setFH (fun y hV => ?_)
          have hV := hV.close
          exact g_vret h hr hk dX1_processWrite_179 (by omega) (by omega) ⟨rfl, hV.cast (Eq.symm (if_pos c_76))⟩
      · skip
        have hlt_34 : a32 < 4 := by omega
        refine g_iload_n h 2 dX1_processWrite_37 rfl rfl ?_
        refine g_iload_n h 3 dX1_processWrite_38 rfl rfl ?_
        refine g_ishr h dX1_processWrite_39 ?_
        refine g_iconst (v := nI 1) h dX1_processWrite_40 (by decide) ?_
        refine g_iand h dX1_processWrite_41 ?_
        refine g_iconst (v := nI 1) h dX1_processWrite_42 (by decide) ?_
        refine g_icmp_ne h 65 dX1_processWrite_43 (by decide) (fun c_43 => ?_) (fun c_43 => ?_)
        · skip
          refine g_iinc (lv' := [(0, _), (1, _), (2, _), (3, .int (nI (a32 + 1)))]) h 3 [1, 2, 3, 0] dX1_processWrite_65 rfl (nI_add _ 1) (by decide) rfl ?_
          refine g_goto h 32 dX1_processWrite_68 (by decide) ?_
          have hb32 : lp_X1_processWrite_32 v j r v (a32 + 1) = _ := (if_neg c_43)
          refine g_wide (k := 2 * (a32 + 1)) (n := 103 * (a32 + 1)) (by omega) (by omega) ?_
          exact ih32 (a32 + 1) _ (by omega) (by omega) (hV.cast (Eq.symm hb32))
        · skip
          refine g_aload_n h 0 dX1_processWrite_46 rfl rfl ?_
          refine g_get (C := RX1) (T := TX1) (N := 9) h 1 (wat_H E _ (by omega)) rfl in_X1_processWrite_X1 (by decide) lk_X1_processWrite_41 rfl rfl dX1_processWrite_47 ?_
          refine g_bipush (v := nI 10) h dX1_processWrite_50 (by decide) ?_
          refine g_aload_n h 0 dX1_processWrite_52 rfl rfl ?_
          refine g_get (C := RX1) (T := TX1) (N := 9) h 0 (wat_H E _ (by omega)) rfl in_X1_processWrite_X1 (by decide) lk_X1_processWrite_38 rfl rfl dX1_processWrite_53 ?_
          refine g_iconst (v := -1) h dX1_processWrite_56 (by decide) ?_
          refine g_iload_n h 3 dX1_processWrite_57 rfl rfl ?_
          refine g_callV (As := [.int (nI 10), .int (nI j), .int _, .int (nI a32)]) (C := RX3) h 4 (c_X3_send l E _ _ _ _ _ _ _ hV (by have := len_lp_pw (v := v) (j := j) (r := r) (b0 := v) a32; omega)) rfl gX1_processWrite_X3_send rfl rfl rfl rfl (by decide +kernel) ⟨Nat.le_of_ble_eq_true rfl, Nat.le_of_ble_eq_true rfl⟩ (wat_N E _) rfl rfl dX1_processWrite_58 ⟨by dsimp only; omega, by dsimp only; omega⟩ (Nat.le_of_ble_eq_true rfl) ?_
          rintro _ y ⟨g58, rfl, hV⟩
          dsimp only [Option.toList, List.cons_append, List.nil_append]
          refine g_iload_n h 1 dX1_processWrite_61 rfl rfl ?_
          refine g_put (C := RX2) (T := TX2) (N := 7) h 6 tyX2 (ws_Ms6 E _ hV.pend.1 hV.pend.2.1 _) rfl in_X1_processWrite_X2 tyX2_ok nmX2 (by decide) lk_X1_processWrite_92 rfl rfl rfl rfl rfl (Nat.le_of_ble_eq_true rfl) dX1_processWrite_62 ?_
          refine g_gen hV.setMF (fun y hV => ?_)
          have hV := hV.close
          refine g_iinc (lv' := [(0, _), (1, _), (2, _), (3, .int (nI (a32 + 1)))]) h 3 [1, 2, 3, 0] dX1_processWrite_65 rfl (nI_add _ 1) (by decide) rfl ?_
          refine g_goto h 32 dX1_processWrite_68 (by decide) ?_
          have hb32 : lp_X1_processWrite_32 v j r v (a32 + 1) = _ := (if_pos c_43)
          refine g_wide (k := 2 * (a32 + 1)) (n := 103 * (a32 + 1)) (by omega) (by omega) ?_
          exact ih32 (a32 + 1) _ (by omega) (by omega) (hV.cast (Eq.symm hb32))
  refine g_wide (k := 2 * 0) (n := 103 * 0) (by omega) (by omega) ?_
  exact loop32 (4 + 1) 0 _ (by omega) (by omega) hV
theorem in_X1_processPut_X1 : ∀ w ∈ wsX10, w ∈ wsX1_processPut := by decide +kernel
theorem in_X1_processPut_X2 : ∀ w ∈ wsX20, w ∈ wsX1_processPut := by decide +kernel
theorem lk_X1_processPut_22 : Cond.fieldLink RX1 22 "CacheDirectory$Home" "ownerCache" "I" ∈ wsX1_processPut := by decide +kernel
theorem lk_X1_processPut_70 : Cond.fieldLink RX1 70 "CacheDirectory$Message" "sender" "I" ∈ wsX1_processPut := by decide +kernel
theorem lk_X1_processPut_35 : Cond.fieldLink RX1 35 "CacheDirectory$Home" "latePuts" "I" ∈ wsX1_processPut := by decide +kernel
theorem lk_X1_processPut_41 : Cond.fieldLink RX1 41 "CacheDirectory$Home" "network" "LCacheDirectory$Network;" ∈ wsX1_processPut := by decide +kernel
theorem lk_X1_processPut_38 : Cond.fieldLink RX1 38 "CacheDirectory$Home" "line" "I" ∈ wsX1_processPut := by decide +kernel
theorem lk_X1_processPut_89 : Cond.fieldLink RX1 89 "CacheDirectory$Message" "carried" "I" ∈ wsX1_processPut := by decide +kernel
theorem lk_X1_processPut_18 : Cond.fieldLink RX1 18 "CacheDirectory$Home" "memoryValue" "I" ∈ wsX1_processPut := by decide +kernel
theorem lk_X1_processPut_25 : Cond.fieldLink RX1 25 "CacheDirectory$Home" "sharerSet" "I" ∈ wsX1_processPut := by decide +kernel
theorem lk_X1_processPut_32 : Cond.fieldLink RX1 32 "CacheDirectory$Home" "timelyPuts" "I" ∈ wsX1_processPut := by decide +kernel
def s_X1_processPut (v : Vw) (j : Nat) (mm : M7) : Vw :=
  if (v.x.FH j 4) = (mm 2) then
    let x3 := vFH v j 3 (mm 4)
    let x4 := vFH x3 j 4 ((-1 : Int32))
    let x5 := vFH x4 j 5 ((x4.x.FH j 5) &&& (((nI 1) <<< ((mm 2) &&& 31)) ^^^ ((-1 : Int32))))
    let x6 := vFH x5 j 7 ((x5.x.FH j 7) + (nI 1))
    let x7 := vsend x6 (mkM (nI 11) (nI j) ((-1 : Int32)) (mm 2))
    x7
  else
    let x1 := vFH v j 8 ((v.x.FH j 8) + (nI 1))
    let x2 := vsend x1 (mkM (nI 11) (nI j) ((-1 : Int32)) (mm 2))
    x2
set_option maxRecDepth 100000 in
set_option maxHeartbeats 400000 in
theorem c_X1_processPut (l : Launch) (E : gE) (x : St) (v : Vw) (hs : List (Nat × M7)) (hV : VW x v [] hs) (j : Nat) (am : Nat) (mm : M7) (hj : j < 16) (hn : (v.q 16).length ≤ 63) (hm : (am, mm) ∈ hs) : Ct l yX1_processPut wsX1_processPut { frames := 8, cells := 2, slots := 103, locals := 260 } E [.ref (aH E j), .ref am] x (fun u y => u = none ∧ VW y (s_X1_processPut v j mm) [] hs) 2 103 := by
  refine Ct.of (cc := cX1_processPut) (nL := 2) (ret := none) (by decide) rfl (Nat.le_of_ble_eq_true rfl) ?_
  intro p e s m args below meth c h hr hk hname
  refine g_lvs (lv' := [(0, _), (1, _)]) rfl ?_
  refine g_aload_n h 0 dX1_processPut_0 rfl rfl ?_
  refine g_get (C := RX1) (T := TX1) (N := 9) h 4 (wat_H E _ (by omega)) rfl in_X1_processPut_X1 (by decide) lk_X1_processPut_22 rfl rfl dX1_processPut_1 ?_
  refine g_eqi (hV.FH _ _) ?_
  refine g_aload_n h 1 dX1_processPut_4 rfl rfl ?_
  refine g_get (C := RX2) (T := TX2) (N := 7) h 2 (wat_Ms E _ (hV.held hm).1 (hV.held hm).2.1) rfl in_X1_processPut_X2 (by decide) lk_X1_processPut_70 rfl rfl dX1_processPut_5 ?_
  refine g_eqi ((hV.held hm).2.2 _) ?_
  refine g_icmp_ne h 54 dX1_processPut_8 (by decide) (fun c_8 => ?_) (fun c_8 => ?_)
  · skip
    refine g_aload_n h 0 dX1_processPut_54 rfl rfl ?_
    refine g_dup h dX1_processPut_55 rfl ?_
    refine g_get (C := RX1) (T := TX1) (N := 9) h 8 (wat_H E _ (by omega)) rfl in_X1_processPut_X1 (by decide) lk_X1_processPut_35 rfl rfl dX1_processPut_56 ?_
    refine g_eqi (hV.FH _ _) ?_
    refine g_iconst (v := nI 1) h dX1_processPut_59 (by decide) ?_
    refine g_iadd h dX1_processPut_60 ?_
    refine g_put (C := RX1) (T := TX1) (N := 9) h 8 tyX1 (ws_H8 E _ (by omega) _) rfl in_X1_processPut_X1 tyX1_ok nmX1 (by decide) lk_X1_processPut_35 rfl rfl rfl rfl rfl (Nat.le_of_ble_eq_true rfl) dX1_processPut_61 ?_
    refine g_gen hV.setFH (fun y hV => ?_)
    refine g_aload_n h 0 dX1_processPut_64 rfl rfl ?_
    refine g_get (C := RX1) (T := TX1) (N := 9) h 1 (wat_H E _ (by omega)) rfl in_X1_processPut_X1 (by decide) lk_X1_processPut_41 rfl rfl dX1_processPut_65 ?_
    refine g_bipush (v := nI 11) h dX1_processPut_68 (by decide) ?_
    refine g_aload_n h 0 dX1_processPut_70 rfl rfl ?_
    refine g_get (C := RX1) (T := TX1) (N := 9) h 0 (wat_H E _ (by omega)) rfl in_X1_processPut_X1 (by decide) lk_X1_processPut_38 rfl rfl dX1_processPut_71 ?_
    refine g_iconst (v := -1) h dX1_processPut_74 (by decide) ?_
    refine g_aload_n h 1 dX1_processPut_75 rfl rfl ?_
    refine g_get (C := RX2) (T := TX2) (N := 7) h 2 (wat_Ms E _ (hV.held hm).1 (hV.held hm).2.1) rfl in_X1_processPut_X2 (by decide) lk_X1_processPut_70 rfl rfl dX1_processPut_76 ?_
    refine g_eqi ((hV.held hm).2.2 _) ?_
    refine g_callV (As := [.int (nI 11), .int (nI j), .int _, .int _]) (C := RX3) h 4 (c_X3_send l E _ _ _ _ _ _ _ hV (by simp only [vacc, q_drop, q_markUsed, q_store, q_open, len_send, q_leave]; exact hn)) rfl gX1_processPut_X3_send rfl rfl rfl rfl (by decide +kernel) ⟨Nat.le_of_ble_eq_true rfl, Nat.le_of_ble_eq_true rfl⟩ (wat_N E _) rfl rfl dX1_processPut_79 ⟨by dsimp only; omega, by dsimp only; omega⟩ (Nat.le_of_ble_eq_true rfl) ?_
    rintro _ y ⟨g79, rfl, hV⟩
    dsimp only [Option.toList, List.cons_append, List.nil_append]
    refine g_pop h dX1_processPut_82 rfl ?_
    have hV := hV.close
    exact g_vret h hr hk dX1_processPut_83 (by omega) (by omega) ⟨rfl, hV.cast (Eq.symm (if_neg c_8))⟩
  · skip
    refine g_aload_n h 0 dX1_processPut_11 rfl rfl ?_
    refine g_aload_n h 1 dX1_processPut_12 rfl rfl ?_
    refine g_get (C := RX2) (T := TX2) (N := 7) h 4 (wat_Ms E _ (hV.held hm).1 (hV.held hm).2.1) rfl in_X1_processPut_X2 (by decide) lk_X1_processPut_89 rfl rfl dX1_processPut_13 ?_
    refine g_eqi ((hV.held hm).2.2 _) ?_
    refine g_put (C := RX1) (T := TX1) (N := 9) h 3 tyX1 (ws_H3 E _ (by omega) _) rfl in_X1_processPut_X1 tyX1_ok nmX1 (by decide) lk_X1_processPut_18 rfl rfl rfl rfl rfl (Nat.le_of_ble_eq_true rfl) dX1_processPut_16 ?_
    refine g_gen hV.setFH (fun y hV => ?_)
    refine g_aload_n h 0 dX1_processPut_19 rfl rfl ?_
    refine g_iconst (v := -1) h dX1_processPut_20 (by decide) ?_
    refine g_put (C := RX1) (T := TX1) (N := 9) h 4 tyX1 (ws_H4 E _ (by omega) _) rfl in_X1_processPut_X1 tyX1_ok nmX1 (by decide) lk_X1_processPut_22 rfl rfl rfl rfl rfl (Nat.le_of_ble_eq_true rfl) dX1_processPut_21 ?_
    refine g_gen hV.setFH (fun y hV => ?_)
    refine g_aload_n h 0 dX1_processPut_24 rfl rfl ?_
    refine g_dup h dX1_processPut_25 rfl ?_
    refine g_get (C := RX1) (T := TX1) (N := 9) h 5 (wat_H E _ (by omega)) rfl in_X1_processPut_X1 (by decide) lk_X1_processPut_25 rfl rfl dX1_processPut_26 ?_
    refine g_eqi (hV.FH _ _) ?_
    refine g_iconst (v := nI 1) h dX1_processPut_29 (by decide) ?_
    refine g_aload_n h 1 dX1_processPut_30 rfl rfl ?_
    refine g_get (C := RX2) (T := TX2) (N := 7) h 2 (wat_Ms E _ (hV.held hm).1 (hV.held hm).2.1) rfl in_X1_processPut_X2 (by decide) lk_X1_processPut_70 rfl rfl dX1_processPut_31 ?_
    refine g_eqi ((hV.held hm).2.2 _) ?_
    refine g_ishl h dX1_processPut_34 ?_
    refine g_iconst (v := -1) h dX1_processPut_35 (by decide) ?_
    refine g_ixor h dX1_processPut_36 ?_
    refine g_iand h dX1_processPut_37 ?_
    refine g_put (C := RX1) (T := TX1) (N := 9) h 5 tyX1 (ws_H5 E _ (by omega) _) rfl in_X1_processPut_X1 tyX1_ok nmX1 (by decide) lk_X1_processPut_25 rfl rfl rfl rfl rfl (Nat.le_of_ble_eq_true rfl) dX1_processPut_38 ?_
    refine g_gen hV.setFH (fun y hV => ?_)
    refine g_aload_n h 0 dX1_processPut_41 rfl rfl ?_
    refine g_dup h dX1_processPut_42 rfl ?_
    refine g_get (C := RX1) (T := TX1) (N := 9) h 7 (wat_H E _ (by omega)) rfl in_X1_processPut_X1 (by decide) lk_X1_processPut_32 rfl rfl dX1_processPut_43 ?_
    refine g_eqi (hV.FH _ _) ?_
    refine g_iconst (v := nI 1) h dX1_processPut_46 (by decide) ?_
    refine g_iadd h dX1_processPut_47 ?_
    refine g_put (C := RX1) (T := TX1) (N := 9) h 7 tyX1 (ws_H7 E _ (by omega) _) rfl in_X1_processPut_X1 tyX1_ok nmX1 (by decide) lk_X1_processPut_32 rfl rfl rfl rfl rfl (Nat.le_of_ble_eq_true rfl) dX1_processPut_48 ?_
    refine g_gen hV.setFH (fun y hV => ?_)
    refine g_goto h 64 dX1_processPut_51 (by decide) ?_
    refine g_aload_n h 0 dX1_processPut_64 rfl rfl ?_
    refine g_get (C := RX1) (T := TX1) (N := 9) h 1 (wat_H E _ (by omega)) rfl in_X1_processPut_X1 (by decide) lk_X1_processPut_41 rfl rfl dX1_processPut_65 ?_
    refine g_bipush (v := nI 11) h dX1_processPut_68 (by decide) ?_
    refine g_aload_n h 0 dX1_processPut_70 rfl rfl ?_
    refine g_get (C := RX1) (T := TX1) (N := 9) h 0 (wat_H E _ (by omega)) rfl in_X1_processPut_X1 (by decide) lk_X1_processPut_38 rfl rfl dX1_processPut_71 ?_
    refine g_iconst (v := -1) h dX1_processPut_74 (by decide) ?_
    refine g_aload_n h 1 dX1_processPut_75 rfl rfl ?_
    refine g_get (C := RX2) (T := TX2) (N := 7) h 2 (wat_Ms E _ (hV.held hm).1 (hV.held hm).2.1) rfl in_X1_processPut_X2 (by decide) lk_X1_processPut_70 rfl rfl dX1_processPut_76 ?_
    refine g_eqi ((hV.held hm).2.2 _) ?_
    refine g_callV (As := [.int (nI 11), .int (nI j), .int _, .int _]) (C := RX3) h 4 (c_X3_send l E _ _ _ _ _ _ _ hV (by simp only [vacc, q_drop, q_markUsed, q_store, q_open, len_send, q_leave]; exact hn)) rfl gX1_processPut_X3_send rfl rfl rfl rfl (by decide +kernel) ⟨Nat.le_of_ble_eq_true rfl, Nat.le_of_ble_eq_true rfl⟩ (wat_N E _) rfl rfl dX1_processPut_79 ⟨by dsimp only; omega, by dsimp only; omega⟩ (Nat.le_of_ble_eq_true rfl) ?_
    rintro _ y ⟨g79, rfl, hV⟩
    dsimp only [Option.toList, List.cons_append, List.nil_append]
    refine g_pop h dX1_processPut_82 rfl ?_
    have hV := hV.close
    exact g_vret h hr hk dX1_processPut_83 (by omega) (by omega) ⟨rfl, hV.cast (Eq.symm (if_pos c_8))⟩
/-- how many messages a home sends at most for a message of kind k -/
def uP (k : Int32) : Nat := if k = nI 1 then 1 else if k = nI 2 then 5 else if k = nI 3 then 1 else 0
theorem uP1 {k : Int32} (h : k = nI 1) : uP k = 1 := if_pos h
theorem uP2 {k : Int32} (h : k = nI 2) : uP k = 5 := by rw [h]; decide
theorem uP3 {k : Int32} (h : k = nI 3) : uP k = 1 := by rw [h]; decide
theorem in_X1_process_X2 : ∀ w ∈ wsX20, w ∈ wsX1_process := by decide +kernel
theorem lk_X1_process_45 : Cond.fieldLink RX1 45 "CacheDirectory$Message" "kind" "I" ∈ wsX1_process := by decide +kernel
theorem lk_X1_process_70 : Cond.fieldLink RX1 70 "CacheDirectory$Message" "sender" "I" ∈ wsX1_process := by decide +kernel
def s_X1_process (v : Vw) (j : Nat) (mm : M7) : Vw :=
  if (mm 0) = nI 1 then
    let x1 := s_X1_processRead v j (mm 2)
    x1
  else
    if (mm 0) = nI 2 then
      let x2 := s_X1_processWrite v j (mm 2)
      x2
    else
      if (mm 0) = nI 3 then
        let x3 := s_X1_processPut v j mm
        x3
      else
        v
set_option maxRecDepth 100000 in
set_option maxHeartbeats 400000 in
theorem c_X1_process (l : Launch) (E : gE) (x : St) (v : Vw) (hs : List (Nat × M7)) (hV : VW x v [] hs) (j : Nat) (am : Nat) (mm : M7) (hj : j < 16) (hn : (v.q 16).length ≤ 59) (hm : (am, mm) ∈ hs) : Ct l yX1_process wsX1_process { frames := 9, cells := 2 * uP (mm 0), slots := 103 * uP (mm 0), locals := 283 } E [.ref (aH E j), .ref am] x (fun u y => u = none ∧ VW y (s_X1_process v j mm) [] hs) (2 * uP (mm 0)) (103 * uP (mm 0)) := by
  refine Ct.of (cc := cX1_process) (nL := 2) (ret := none) (by decide) rfl (Nat.le_of_ble_eq_true rfl) ?_
  intro p e s m args below meth c h hr hk hname
  refine g_lvs (lv' := [(0, _), (1, _)]) rfl ?_
  refine g_aload_n h 1 dX1_process_0 rfl rfl ?_
  refine g_get (C := RX2) (T := TX2) (N := 7) h 0 (wat_Ms E _ (hV.held hm).1 (hV.held hm).2.1) rfl in_X1_process_X2 (by decide) lk_X1_process_45 rfl rfl dX1_process_1 ?_
  refine g_eqi ((hV.held hm).2.2 _) ?_
  by_cases c_4_1 : (mm 0) = nI 1
  · skip
    refine g_eqi c_4_1 ?_
    refine g_tableIn h 32 dX1_process_4 (by decide) (by decide) (off := 28) (by decide) (by decide) ?_
    refine g_aload_n h 0 dX1_process_32 rfl rfl ?_
    refine g_aload_n h 1 dX1_process_33 rfl rfl ?_
    refine g_get (C := RX2) (T := TX2) (N := 7) h 2 (wat_Ms E _ (hV.held hm).1 (hV.held hm).2.1) rfl in_X1_process_X2 (by decide) lk_X1_process_70 rfl rfl dX1_process_34 ?_
    refine g_eqi ((hV.held hm).2.2 _) ?_
    have hu := uP1 c_4_1
    refine g_callV (As := [.int _]) (C := RX1) h 1 (c_X1_processRead l E _ _ _ hV j _ hj (by omega)) rfl gX1_process_X1_processRead rfl rfl rfl rfl (by decide +kernel) ⟨Nat.le_of_ble_eq_true rfl, Nat.le_of_ble_eq_true rfl⟩ (wat_H E _ (by omega)) rfl rfl dX1_process_37 ⟨by dsimp only; omega, by dsimp only; omega⟩ (Nat.le_of_ble_eq_true rfl) ?_
    rintro _ y ⟨rfl, hV⟩
    dsimp only [Option.toList, List.cons_append, List.nil_append]
    refine g_goto h 62 dX1_process_40 (by decide) ?_
    exact g_vret h hr hk dX1_process_62 (by omega) (by omega) ⟨rfl, hV.cast (Eq.symm (if_pos c_4_1))⟩
  by_cases c_4_2 : (mm 0) = nI 2
  · skip
    refine g_eqi c_4_2 ?_
    refine g_tableIn h 43 dX1_process_4 (by decide) (by decide) (off := 39) (by decide) (by decide) ?_
    refine g_aload_n h 0 dX1_process_43 rfl rfl ?_
    refine g_aload_n h 1 dX1_process_44 rfl rfl ?_
    refine g_get (C := RX2) (T := TX2) (N := 7) h 2 (wat_Ms E _ (hV.held hm).1 (hV.held hm).2.1) rfl in_X1_process_X2 (by decide) lk_X1_process_70 rfl rfl dX1_process_45 ?_
    refine g_eqi ((hV.held hm).2.2 _) ?_
    have hu := uP2 c_4_2
    refine g_callV (As := [.int _]) (C := RX1) h 1 (c_X1_processWrite l E _ _ _ hV j _ hj (by omega)) rfl gX1_process_X1_processWrite rfl rfl rfl rfl (by decide +kernel) ⟨Nat.le_of_ble_eq_true rfl, Nat.le_of_ble_eq_true rfl⟩ (wat_H E _ (by omega)) rfl rfl dX1_process_48 ⟨by dsimp only; omega, by dsimp only; omega⟩ (Nat.le_of_ble_eq_true rfl) ?_
    rintro _ y ⟨rfl, hV⟩
    dsimp only [Option.toList, List.cons_append, List.nil_append]
    refine g_goto h 62 dX1_process_51 (by decide) ?_
    exact g_vret h hr hk dX1_process_62 (by omega) (by omega) ⟨rfl, hV.cast (Eq.symm (Eq.trans (if_neg c_4_1) (if_pos c_4_2)))⟩
  by_cases c_4_3 : (mm 0) = nI 3
  · skip
    refine g_eqi c_4_3 ?_
    refine g_tableIn h 54 dX1_process_4 (by decide) (by decide) (off := 50) (by decide) (by decide) ?_
    refine g_aload_n h 0 dX1_process_54 rfl rfl ?_
    refine g_aload_n h 1 dX1_process_55 rfl rfl ?_
    have hu := uP3 c_4_3
    refine g_callV (As := [.ref am]) (C := RX1) h 1 (c_X1_processPut l E _ _ _ hV j am mm hj (by omega) hm) rfl gX1_process_X1_processPut rfl rfl rfl rfl (by decide +kernel) ⟨Nat.le_of_ble_eq_true rfl, Nat.le_of_ble_eq_true rfl⟩ (wat_H E _ (by omega)) rfl rfl dX1_process_56 ⟨by dsimp only; omega, by dsimp only; omega⟩ (Nat.le_of_ble_eq_true rfl) ?_
    rintro _ y ⟨rfl, hV⟩
    dsimp only [Option.toList, List.cons_append, List.nil_append]
    refine g_goto h 62 dX1_process_59 (by decide) ?_
    exact g_vret h hr hk dX1_process_62 (by omega) (by omega) ⟨rfl, hV.cast (Eq.symm (Eq.trans (if_neg c_4_1) (Eq.trans (if_neg c_4_2) (if_pos c_4_3))))⟩
  have n_4_1 : ¬ (mm 0).toInt = 1 := lv_neT c_4_1 (by decide)
  have n_4_2 : ¬ (mm 0).toInt = 2 := lv_neT c_4_2 (by decide)
  have n_4_3 : ¬ (mm 0).toInt = 3 := lv_neT c_4_3 (by decide)
  refine g_tableOut h 62 dX1_process_4 (by omega) (by decide) ?_
  exact g_vret h hr hk dX1_process_62 (by omega) (by omega) ⟨rfl, hV.cast (Eq.symm (Eq.trans (if_neg c_4_1) (Eq.trans (if_neg c_4_2) (if_neg c_4_3))))⟩
theorem q_put {v : Vw} {j : Nat} {mm : M7} : ((s_X1_processPut v j mm).q 16).length = (v.q 16).length + 1 ∧ ∀ k, k ≠ 16 → (s_X1_processPut v j mm).q k = v.q k := by
  unfold s_X1_processPut
  simp only
  split <;> simp only [vacc, vsend_q, va_up_self, List.length_append, List.length_singleton, true_and] <;> exact fun k hk => va_up_ne _ _ hk
theorem busy_read {v : Vw} {j : Nat} {r : Int32} : (s_X1_processRead v j r).x.FH j 6 = nI 1 := by
  unfold s_X1_processRead
  simp only
  split <;> simp only [vacc, vsend_x, St.FH_setFH, u2, va_up_self]
theorem busy_write {v : Vw} {j : Nat} {r : Int32} : (s_X1_processWrite v j r).x.FH j 6 = nI 1 := by
  unfold s_X1_processWrite
  simp only
  split <;> (try split) <;> simp only [vacc, vsend_x, St.FH_setFH, u2, va_up_self]
/-- where a home isn't busy after a message, one message at most was sent, and its queue is what it was -/
theorem idle_process {v : Vw} {j : Nat} {mm : M7} (hb : (s_X1_process v j mm).x.FH j 6 = 0) : ((s_X1_process v j mm).q 16).length ≤ (v.q 16).length + 1 ∧ ∀ k, k ≠ 16 → (s_X1_process v j mm).q k = v.q k := by
  unfold s_X1_process at hb ⊢
  simp only at hb ⊢
  split at hb
  · rw [busy_read] at hb
    exact absurd hb (by decide)
  · rename_i h1
    rw [if_neg h1]
    split at hb
    · rw [busy_write] at hb
      exact absurd hb (by decide)
    · rename_i h2
      rw [if_neg h2]
      split
      · exact ⟨Nat.le_of_eq q_put.1, q_put.2⟩
      · exact ⟨Nat.le_succ _, fun _ _ => rfl⟩
/-- the home's first waiting message is processed -/
def stp (v : Vw) (j : Nat) : Vw := s_X1_process (vq v j ((v.q j).eraseIdx 0)) j (mat v j 0)
def lR (j : Nat) : Nat → Vw → Vw
  | 0, w => w
  | n + 1, w => if w.x.FH j 6 = 0 then (if (w.q j).length = 0 then w else lR j n (stp w j)) else w
def uL (j : Nat) : Nat → Vw → Nat
  | 0, _ => 0
  | n + 1, w => if w.x.FH j 6 = 0 then (if (w.q j).length = 0 then 0 else uP (mat w j 0 0) + uL j n (stp w j)) else 0
def s_X1_receive (v : Vw) (j : Nat) (mm : M7) : Vw :=
  if mm 0 = nI 4 then lR j (v.q j).length (vFH v j 6 (nI 0)) else if v.x.FH j 6 = 0 then s_X1_process v j mm else vq v j (v.q j ++ [mm])
def uR (v : Vw) (j : Nat) (mm : M7) : Nat :=
  if mm 0 = nI 4 then uL j (v.q j).length (vFH v j 6 (nI 0)) else if v.x.FH j 6 = 0 then uP (mm 0) else 1
theorem in_X1_receive_X1 : ∀ w ∈ wsX10, w ∈ wsX1_receive := by decide +kernel
theorem in_X1_receive_X2 : ∀ w ∈ wsX20, w ∈ wsX1_receive := by decide +kernel
theorem lk_X1_receive_45 : Cond.fieldLink RX1 45 "CacheDirectory$Message" "kind" "I" ∈ wsX1_receive := by decide +kernel
theorem lk_X1_receive_28 : Cond.fieldLink RX1 28 "CacheDirectory$Home" "busy" "Z" ∈ wsX1_receive := by decide +kernel
theorem lk_X1_receive_12 : Cond.fieldLink RX1 12 "CacheDirectory$Home" "waiting" "Ljava/util/ArrayList;" ∈ wsX1_receive := by decide +kernel
set_option maxRecDepth 100000 in
set_option maxHeartbeats 400000 in
theorem c_X1_receive (l : Launch) (E : gE) (x : St)  (v : Vw) (j am : Nat) (mm : M7) (hV : VW x v [] [(am, mm)]) (hj : j < 16) (hQ : (v.q 16).length + (v.q j).length ≤ 59) : Ct l yX1_receive wsX1_receive { frames := 10, cells := 2 * uR v j mm, slots := 103 * uR v j mm, locals := 304 } E [.ref (aH E j), .ref am] x (fun u y => u = none ∧ VW y (s_X1_receive v j mm) [] []) (2 * uR v j mm) (103 * uR v j mm) := by
  refine Ct.of (cc := cX1_receive) (nL := 3) (ret := none) (by decide) rfl (Nat.le_of_ble_eq_true rfl) ?_
  intro p e s m args below meth c h hr hk hname
  refine g_lvs (lv' := [(0, _), (1, _)]) rfl ?_
  refine g_aload_n h 1 dX1_receive_0 rfl rfl ?_
  refine g_get (C := RX2) (T := TX2) (N := 7) h 0 (wat_Ms E _ (hV.held (List.mem_cons_self ..)).1 (hV.held (List.mem_cons_self ..)).2.1) rfl in_X1_receive_X2 (by decide) lk_X1_receive_45 rfl rfl dX1_receive_1 ?_
  refine g_eqi ((hV.held (List.mem_cons_self ..)).2.2 _) ?_
  refine g_iconst (v := nI 4) h dX1_receive_4 (by decide) ?_
  refine g_icmp_ne h 66 dX1_receive_5 (by decide) (fun c_5 => ?_) (fun c_5 => ?_)
  · skip
    refine g_aload_n h 0 dX1_receive_66 rfl rfl ?_
    refine g_get (C := RX1) (T := TX1) (N := 9) h 6 (wat_H E _ (by omega)) rfl in_X1_receive_X1 (by decide) lk_X1_receive_28 rfl rfl dX1_receive_67 ?_
    refine g_eqi (hV.FH _ _) ?_
    refine g_if_eq h 85 dX1_receive_70 (by decide) (fun c_70 => ?_) (fun c_70 => ?_)
    · skip
      refine g_aload_n h 0 dX1_receive_85 rfl rfl ?_
      refine g_aload_n h 1 dX1_receive_86 rfl rfl ?_
      have hu : uR v j mm = uP (mm 0) := (if_neg c_5).trans (if_pos c_70)
      refine g_callV (As := [.ref am]) (C := RX1) h 1 (c_X1_process l E _ _ _ hV j am mm hj (by omega) (List.mem_cons_self ..)) rfl gX1_receive_X1_process rfl rfl rfl rfl (by decide +kernel) ⟨Nat.le_of_ble_eq_true rfl, Nat.le_of_ble_eq_true rfl⟩ (wat_H E _ (by omega)) rfl rfl dX1_receive_87 ⟨by dsimp only; omega, by dsimp only; omega⟩ (Nat.le_of_ble_eq_true rfl) ?_
      rintro _ y ⟨rfl, hV⟩
      dsimp only [Option.toList, List.cons_append, List.nil_append]
      exact g_vret h hr hk dX1_receive_90 (by omega) (by omega) ⟨rfl, hV.less.cast (Eq.symm ((if_neg c_5).trans (if_pos c_70)))⟩
    · skip
      refine g_aload_n h 0 dX1_receive_73 rfl rfl ?_
      refine g_get (C := RX1) (T := TX1) (N := 9) h 2 (wat_H E _ (by omega)) rfl in_X1_receive_X1 (by decide) lk_X1_receive_12 rfl rfl dX1_receive_74 ?_
      refine g_aload_n h 1 dX1_receive_77 rfl rfl ?_
      have hu : uR v j mm = 1 := (if_neg c_5).trans (if_neg c_70)
      refine g_callV (As := [.ref am]) (C := RJx4a65c) h 1 (c_addQ l E _ _ j am mm hj hV (by omega)) rfl gX1_receive_Jx4a65c_add_9ea2d rfl rfl rfl rfl (by decide +kernel) ⟨Nat.le_of_ble_eq_true rfl, Nat.le_of_ble_eq_true rfl⟩ (wat_L E _ (by omega)) rfl rfl dX1_receive_78 ⟨by dsimp only; omega, by dsimp only; omega⟩ (Nat.le_of_ble_eq_true rfl) ?_
      rintro _ y ⟨rfl, hV⟩
      dsimp only [Option.toList, List.cons_append, List.nil_append]
      refine g_pop h dX1_receive_81 rfl ?_
      refine g_goto h 90 dX1_receive_82 (by decide) ?_
      exact g_vret h hr hk dX1_receive_90 (by omega) (by omega) ⟨rfl, hV.cast (Eq.symm ((if_neg c_5).trans (if_neg c_70)))⟩
  · skip
    refine g_aload_n h 0 dX1_receive_8 rfl rfl ?_
    refine g_iconst (v := nI 0) h dX1_receive_9 (by decide) ?_
    refine g_put (C := RX1) (T := TX1) (N := 9) h 6 tyX1 (ws_H6 E _ (by omega) _) rfl in_X1_receive_X1 tyX1_ok nmX1 (by decide) lk_X1_receive_28 rfl rfl rfl (by decide) (by decide) (Nat.le_of_ble_eq_true rfl) dX1_receive_10 ?_
    refine g_gen hV.setFH (fun y hV => ?_)
    refine g_aload_n h 0 dX1_receive_13 rfl rfl ?_
    refine g_get (C := RX1) (T := TX1) (N := 9) h 2 (wat_H E _ (by omega)) rfl in_X1_receive_X1 (by decide) lk_X1_receive_12 rfl rfl dX1_receive_14 ?_
    refine g_callV (As := []) (C := RJx4a65c) h 0 (c_Jx4a65c_size_8abf5 l E _ j (by omega)) rfl gX1_receive_Jx4a65c_size_8abf5 rfl rfl rfl rfl (by decide +kernel) ⟨Nat.le_of_ble_eq_true rfl, Nat.le_of_ble_eq_true rfl⟩ (wat_L E _ (by omega)) rfl rfl dX1_receive_17 ⟨by dsimp only; omega, by dsimp only; omega⟩ (Nat.le_of_ble_eq_true rfl) ?_
    rintro _ _ ⟨rfl, hy⟩
    obtain rfl := hy.symm
    dsimp only [Option.toList, List.cons_append, List.nil_append]
    obtain ⟨s1, s2⟩ := hV.size (j := j) (by omega)
    simp only [vacc] at s1 s2
    refine g_eqi s1 ?_
    refine g_istore_n (lv' := [(0, _), (1, _), (2, _)]) h [1, 2, 0] dX1_receive_20 rfl (by decide) rfl ?_
    have hU : uR v j mm = uL j (v.q j).length (vFH v j 6 (nI 0)) := if_pos c_5
    have hF0 : s_X1_receive v j mm = lR j (v.q j).length (vFH v j 6 (nI 0)) := if_pos c_5
    have loop21 : ∀ (n : Nat) (w : Vw) (y : St) (k1 k2 : Nat), VW y w [] [] → (w.x.FH j 6 = 0 → (w.q 16).length + (w.q j).length ≤ 59) → n ≤ 64 → lR j n w = lR j (v.q j).length (vFH v j 6 (nI 0)) → k1 + 2 * uL j n w ≤ 2 * uR v j mm → k2 + 103 * uL j n w ≤ 103 * uR v j mm → gG p l e ({ frames := 10, cells := 2 * uR v j mm, slots := 103 * uR v j mm, locals := 304 } : Room) s m args below meth c (gQ below E x s (fun u y => u = none ∧ VW y (s_X1_receive v j mm) [] []) args (2 * uR v j mm) (103 * uR v j mm)) E x 3 k1 k2 y 21 [(0, .ref (aH E j)), (1, .ref am), (2, .int (nI (n)))] [] := by
      intro n
      induction n with
      | zero =>
        intro w y k1 k2 hV hq hn6 hF hk1 hk2
        refine g_iload_n h 2 dX1_receive_21 rfl rfl ?_
        refine g_if_le h 63 dX1_receive_22 (by decide) (fun c_22 => ?_) (fun c_22 => absurd (by decide) c_22)
        refine g_goto h 90 dX1_receive_63 (by decide) ?_
        exact g_vret h hr hk dX1_receive_90 (by omega) (by omega) ⟨rfl, hV.cast (hF.trans hF0.symm)⟩
      | succ n ih =>
        intro w y k1 k2 hV hq hn6 hF hk1 hk2
        refine g_iload_n h 2 dX1_receive_21 rfl rfl ?_
        refine g_if_le h 63 dX1_receive_22 (by decide) (fun c_22 => absurd (nI_lt (a := 0) (b := n + 1) (by omega) (by omega)) (Int32.not_lt.mpr c_22)) (fun c_22 => ?_)
        refine g_aload_n h 0 dX1_receive_25 rfl rfl ?_
        refine g_get (C := RX1) (T := TX1) (N := 9) h 6 (wat_H E _ (by omega)) rfl in_X1_receive_X1 (by decide) lk_X1_receive_28 rfl rfl dX1_receive_26 ?_
        refine g_eqi (hV.FH _ _) ?_
        refine g_if_ne h 63 dX1_receive_29 (by decide) (fun c_29 => ?_) (fun c_29 => ?_)
        · skip
          have hz : lR j (n + 1) w = w := if_neg c_29
          refine g_goto h 90 dX1_receive_63 (by decide) ?_
          exact g_vret h hr hk dX1_receive_90 (by omega) (by omega) ⟨rfl, hV.cast ((hz.symm.trans hF).trans hF0.symm)⟩
        · skip
          refine g_aload_n h 0 dX1_receive_32 rfl rfl ?_
          refine g_get (C := RX1) (T := TX1) (N := 9) h 2 (wat_H E _ (by omega)) rfl in_X1_receive_X1 (by decide) lk_X1_receive_12 rfl rfl dX1_receive_33 ?_
          refine g_callV (As := []) (C := RJx4a65c) h 0 (c_Jx4a65c_isEmpty_aae02 l E _ j (by omega)) rfl gX1_receive_Jx4a65c_isEmpty_aae02 rfl rfl rfl rfl (by decide +kernel) ⟨Nat.le_of_ble_eq_true rfl, Nat.le_of_ble_eq_true rfl⟩ (wat_L E _ (by omega)) rfl rfl dX1_receive_36 ⟨by dsimp only; omega, by dsimp only; omega⟩ (Nat.le_of_ble_eq_true rfl) ?_
          rintro _ _ ⟨rfl, hy⟩
          obtain rfl := hy.symm
          dsimp only [Option.toList, List.cons_append, List.nil_append]
          obtain ⟨s1, s2⟩ := hV.size (j := j) (by omega)
          have hie : nI (r_Jx4a65c_isEmpty_aae02 y j) = if (w.q j).length = 0 then 1 else 0 := by
            unfold r_Jx4a65c_isEmpty_aae02
            rw [s1]
            by_cases h0 : (w.q j).length = 0
            · rw [h0]
              rfl
            · rw [if_neg (show ¬ nI (w.q j).length = 0 from fun q => h0 ((nI_eq (b := 0) (by omega) (by omega)).mp q)), if_neg h0]
              rfl
          refine g_eqi hie ?_
          refine g_if_ne h 63 dX1_receive_39 (by decide) (fun c_39 => ?_) (fun c_39 => ?_)
          · skip
            have h0 : (w.q j).length = 0 := by
              by_cases h0 : (w.q j).length = 0
              · exact h0
              · rw [if_neg h0] at c_39
                exact absurd rfl c_39
            have hz : lR j (n + 1) w = w := (if_pos c_29).trans (if_pos h0)
            refine g_goto h 90 dX1_receive_63 (by decide) ?_
            exact g_vret h hr hk dX1_receive_90 (by omega) (by omega) ⟨rfl, hV.cast ((hz.symm.trans hF).trans hF0.symm)⟩
          · skip
            have h0 : ¬ (w.q j).length = 0 := by
              intro h0
              rw [if_pos h0] at c_39
              exact absurd c_39 (by decide)
            have hz : lR j (n + 1) w = lR j n (stp w j) := (if_pos c_29).trans (if_neg h0)
            have hu : uL j (n + 1) w = uP (mat w j 0 0) + uL j n (stp w j) := (if_pos c_29).trans (if_neg h0)
            have hqq := hq c_29
            refine g_aload_n h 0 dX1_receive_42 rfl rfl ?_
            refine g_aload_n h 0 dX1_receive_43 rfl rfl ?_
            refine g_get (C := RX1) (T := TX1) (N := 9) h 2 (wat_H E _ (by omega)) rfl in_X1_receive_X1 (by decide) lk_X1_receive_12 rfl rfl dX1_receive_44 ?_
            refine g_iconst (v := nI 0) h dX1_receive_47 (by decide) ?_
            refine g_callV (As := [.int (nI 0)]) (C := RJx4a65c) h 1 (c_rem l E _ w [] j 0 (by omega) hV (by omega)) rfl gX1_receive_Jx4a65c_remove_915e3 rfl rfl rfl rfl (by decide +kernel) ⟨Nat.le_of_ble_eq_true rfl, Nat.le_of_ble_eq_true rfl⟩ (wat_L E _ (by omega)) rfl rfl dX1_receive_48 ⟨by dsimp only; omega, by dsimp only; omega⟩ (Nat.le_of_ble_eq_true rfl) ?_
            rintro _ y2 ⟨a2, rfl, hV2, -⟩
            dsimp only [Option.toList, List.cons_append, List.nil_append]
            refine g_cast h (by decide +kernel) (hV2.held (List.mem_cons_self ..)).1 (hV2.held (List.mem_cons_self ..)).2.1 dX1_receive_51 ?_
            refine g_callV (As := [.ref a2]) (C := RX1) h 1 (c_X1_process l E _ (vq w j ((w.q j).eraseIdx 0)) _ hV2 j a2 (mat w j 0) hj (by rw [vq_q, va_up_ne _ _ (by omega)]; omega) (List.mem_cons_self ..)) rfl gX1_receive_X1_process rfl rfl rfl rfl (by decide +kernel) ⟨Nat.le_of_ble_eq_true rfl, Nat.le_of_ble_eq_true rfl⟩ (wat_H E _ (by omega)) rfl rfl dX1_receive_54 ⟨by dsimp only; omega, by dsimp only; omega⟩ (Nat.le_of_ble_eq_true rfl) ?_
            rintro _ y3 ⟨rfl, hV3⟩
            dsimp only [Option.toList, List.cons_append, List.nil_append]
            refine g_iinc (lv' := [(0, _), (1, _), (2, .int (nI n))]) h 2 [1, 2, 0] dX1_receive_57 rfl (sb_m1 (by omega)) (by decide) rfl ?_
            refine g_goto h 21 dX1_receive_60 (by decide) ?_
            refine ih (stp w j) y3 _ _ hV3.less (fun hb => ?_) (by omega) (hz.symm.trans hF) (by omega) (by omega)
            obtain ⟨i1, i2⟩ := idle_process (v := vq w j ((w.q j).eraseIdx 0)) (j := j) (mm := mat w j 0) hb
            rw [vq_q, va_up_ne _ _ (show 16 ≠ j by omega)] at i1
            have i3 : ((stp w j).q j).length = (w.q j).length - 1 := by
              show ((s_X1_process (vq w j ((w.q j).eraseIdx 0)) j (mat w j 0)).q j).length = _
              rw [i2 j (by omega), vq_q, va_up_self, List.length_eraseIdx_of_lt (by omega)]
            have i4 : ((stp w j).q 16).length ≤ (w.q 16).length + 1 := i1
            omega
    exact loop21 _ _ _ _ _ hV.less (fun _ => by simp only [vacc]; omega) (by omega) rfl (by omega) (by omega)
