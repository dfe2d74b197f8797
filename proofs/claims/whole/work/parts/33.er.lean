/-- the part of the state that the model doesn't touch -/
def co (x : St) : St := St.mk x.FC x.FR x.AC x.FH x.FL x.LD (fun _ => 0) (fun _ _ => 0) x.OU x.PL x.PK x.MF x.BN x.BR
theorem FM_er {x : St} : (er x).FM = x.FM := rfl
theorem AM_er {x : St} : (er x).AM = x.AM := rfl
theorem setFM_er {x : St} {k : Nat} {w : Int32} : (er x).setFM k w = er (x.setFM k w) := rfl
theorem setAM_er {x : St} {k : Nat} {f : Nat → Int32} : (er x).setAM k f = er (x.setAM k f) := rfl
theorem ite_er {c : Prop} [Decidable c] {a b : St} : (if c then er a else er b) = er (if c then a else b) := by
  split <;> rfl
theorem co_setFM {x : St} {k : Nat} {w : Int32} : co (x.setFM k w) = co x := rfl
theorem co_setAM {x : St} {k : Nat} {f : Nat → Int32} : co (x.setAM k f) = co x := rfl
theorem co_ite {c : Prop} [Decidable c] {a b : St} : co (if c then a else b) = if c then co a else co b := by
  split <;> rfl
theorem ite_er2 {c : Prop} [Decidable c] {α : Type} {a b : St} {u w : α} : (if c then (u, er a) else (w, er b)) = ((if c then (u, a) else (w, b)).1, er (if c then (u, a) else (w, b)).2) := by
  split <;> rfl
theorem r_X6_thrown_er {x : St}  : r_X6_thrown (er x)  = r_X6_thrown x  := by
  unfold r_X6_thrown
  simp only [FM_er, AM_er, setFM_er, setAM_er, ite_er]
theorem s_X6_fail_er {x : St} {a : Int32} : s_X6_fail (er x) a = er (s_X6_fail x a) := by
  unfold s_X6_fail
  simp only [FM_er, AM_er, setFM_er, setAM_er, ite_er]
theorem co_s_X6_fail {x : St} {a : Int32} : co (s_X6_fail x a) = co x := by
  unfold s_X6_fail
  simp only [co_setFM, co_setAM, co_ite, ite_self]
theorem s_X6_failed_er {x : St} {a : Int32} : s_X6_failed (er x) a = er (s_X6_failed x a) := by
  unfold s_X6_failed
  simp only [FM_er, AM_er, setFM_er, setAM_er, ite_er]
theorem co_s_X6_failed {x : St} {a : Int32} : co (s_X6_failed x a) = co x := by
  unfold s_X6_failed
  simp only [co_setFM, co_setAM, co_ite, ite_self]
theorem lp_X6_linesIn_4_er {x : St} {i : Nat} {b4_0 : Nat} : ∀ (n : Nat), lp_X6_linesIn_4 (er x) i b4_0 n = lp_X6_linesIn_4 x i b4_0 n := by
  intro n
  induction n with
  | zero =>
    skip
    unfold lp_X6_linesIn_4
    first | rfl | simp only [FM_er, AM_er, setFM_er, setAM_er, ite_er]
  | succ n ih =>
    skip
    unfold lp_X6_linesIn_4
    simp only [ih, FM_er, AM_er, setFM_er, setAM_er, ite_er, ite_er2]
theorem r_X6_linesIn_er {x : St} {i : Nat} : r_X6_linesIn (er x) i = r_X6_linesIn x i := by
  unfold r_X6_linesIn
  simp only [FM_er, AM_er, setFM_er, setAM_er, ite_er, lp_X6_linesIn_4_er]
theorem lp_X6_victimsIn_4_er {x : St} {i : Nat} {b4_0 : Nat} : ∀ (n : Nat), lp_X6_victimsIn_4 (er x) i b4_0 n = lp_X6_victimsIn_4 x i b4_0 n := by
  intro n
  induction n with
  | zero =>
    skip
    unfold lp_X6_victimsIn_4
    first | rfl | simp only [FM_er, AM_er, setFM_er, setAM_er, ite_er]
  | succ n ih =>
    skip
    unfold lp_X6_victimsIn_4
    simp only [ih, FM_er, AM_er, setFM_er, setAM_er, ite_er, ite_er2]
theorem r_X6_victimsIn_er {x : St} {i : Nat} : r_X6_victimsIn (er x) i = r_X6_victimsIn x i := by
  unfold r_X6_victimsIn
  simp only [FM_er, AM_er, setFM_er, setAM_er, ite_er, lp_X6_victimsIn_4_er]
theorem s_X6_use_er {x : St} {i : Nat} {j : Nat} : s_X6_use (er x) i j = er (s_X6_use x i j) := by
  unfold s_X6_use
  simp only [FM_er, AM_er, setFM_er, setAM_er, ite_er]
theorem co_s_X6_use {x : St} {i : Nat} {j : Nat} : co (s_X6_use x i j) = co x := by
  unfold s_X6_use
  simp only [co_setFM, co_setAM, co_ite, ite_self]
theorem lp_X6_lineBy_30_er {x : St} {i : Nat} {b : Int32} {a2 : Nat} {b30_0 : Nat} : ∀ (n : Nat), lp_X6_lineBy_30 (er x) i b a2 b30_0 n = lp_X6_lineBy_30 x i b a2 b30_0 n := by
  intro n
  induction n with
  | zero =>
    skip
    unfold lp_X6_lineBy_30
    first | rfl | simp only [FM_er, AM_er, setFM_er, setAM_er, ite_er]
  | succ n ih =>
    skip
    unfold lp_X6_lineBy_30
    simp only [ih, FM_er, AM_er, setFM_er, setAM_er, ite_er, ite_er2]
theorem lq_X6_lineBy_2_er {x : St} {i : Nat} {b : Int32} : ∀ (n : Nat) (u1 : Nat), lq_X6_lineBy_2 (er x) i b n u1 = lq_X6_lineBy_2 x i b n u1 := by
  intro n
  induction n with
  | zero =>
    intro u1
    unfold lq_X6_lineBy_2
    first | rfl | simp only [FM_er, AM_er, setFM_er, setAM_er, ite_er, lp_X6_lineBy_30_er]
  | succ n ih =>
    intro u1
    unfold lq_X6_lineBy_2
    simp only [ih, FM_er, AM_er, setFM_er, setAM_er, ite_er, lp_X6_lineBy_30_er, ite_er2]
theorem r_X6_lineBy_er {x : St} {i : Nat} {b : Int32} : r_X6_lineBy (er x) i b = r_X6_lineBy x i b := by
  unfold r_X6_lineBy
  simp only [FM_er, AM_er, setFM_er, setAM_er, ite_er, lq_X6_lineBy_2_er]
theorem s_X6_send_er {x : St} {mk : Int32} {ml : Int32} {mf : Int32} {mt : Int32} {mv : Int32} {mn : Int32} {mr : Int32} : s_X6_send (er x) mk ml mf mt mv mn mr = er (s_X6_send x mk ml mf mt mv mn mr) := by
  unfold s_X6_send
  simp only [FM_er, AM_er, setFM_er, setAM_er, ite_er]
theorem co_s_X6_send {x : St} {mk : Int32} {ml : Int32} {mf : Int32} {mt : Int32} {mv : Int32} {mn : Int32} {mr : Int32} : co (s_X6_send x mk ml mf mt mv mn mr) = co x := by
  unfold s_X6_send
  simp only [co_setFM, co_setAM, co_ite, ite_self]
theorem r_X6_canRemove_er {x : St} {i : Nat} {j : Nat} : r_X6_canRemove (er x) i j = r_X6_canRemove x i j := by
  unfold r_X6_canRemove
  simp only [FM_er, AM_er, setFM_er, setAM_er, ite_er, r_X6_victimsIn_er]
theorem s_X6_remove_er {x : St} {i : Nat} {j : Nat} : s_X6_remove (er x) i j = er (s_X6_remove x i j) := by
  unfold s_X6_remove
  simp only [FM_er, AM_er, setFM_er, setAM_er, ite_er, s_X6_send_er]
theorem co_s_X6_remove {x : St} {i : Nat} {j : Nat} : co (s_X6_remove x i j) = co x := by
  unfold s_X6_remove
  simp only [co_setFM, co_setAM, co_ite, ite_self, co_s_X6_send]
theorem r_X6_leaving_er {x : St} {i : Nat} {j : Nat} : r_X6_leaving (er x) i j = r_X6_leaving x i j := by
  unfold r_X6_leaving
  simp only [FM_er, AM_er, setFM_er, setAM_er, ite_er, r_X6_linesIn_er, r_X6_lineBy_er]
theorem r_X6_canStart_er {x : St} {i : Nat} {j : Nat} : r_X6_canStart (er x) i j = r_X6_canStart x i j := by
  unfold r_X6_canStart
  simp only [FM_er, AM_er, setFM_er, setAM_er, ite_er, r_X6_canRemove_er, r_X6_leaving_er]
theorem s_X6_start_er {x : St} {i : Nat} {j : Nat} {w : Int32} {a : Int32} : s_X6_start (er x) i j w a = er (s_X6_start x i j w a) := by
  unfold s_X6_start
  simp only [FM_er, AM_er, setFM_er, setAM_er, ite_er, s_X6_send_er, s_X6_remove_er, r_X6_leaving_er]
theorem co_s_X6_start {x : St} {i : Nat} {j : Nat} {w : Int32} {a : Int32} : co (s_X6_start x i j w a) = co x := by
  unfold s_X6_start
  simp only [co_setFM, co_setAM, co_ite, ite_self, co_s_X6_send, co_s_X6_remove]
theorem r_X6_setRoom_ok_er {x : St} {i : Nat} {b : Int32} {d : Int32} : r_X6_setRoom_ok (er x) i b d = r_X6_setRoom_ok x i b d := by
  unfold r_X6_setRoom_ok
  simp only [FM_er, AM_er, setFM_er, setAM_er, ite_er, s_X6_failed_er, r_X6_linesIn_er, r_X6_victimsIn_er]
theorem s_X6_setRoom_ok_er {x : St} {i : Nat} {b : Int32} {d : Int32} : s_X6_setRoom_ok (er x) i b d = er (s_X6_setRoom_ok x i b d) := by
  unfold s_X6_setRoom_ok
  simp only [FM_er, AM_er, setFM_er, setAM_er, ite_er, s_X6_failed_er, r_X6_linesIn_er, r_X6_victimsIn_er]
theorem co_s_X6_setRoom_ok {x : St} {i : Nat} {b : Int32} {d : Int32} : co (s_X6_setRoom_ok x i b d) = co x := by
  unfold s_X6_setRoom_ok
  simp only [co_setFM, co_setAM, co_ite, ite_self, co_s_X6_failed]
theorem s_X6_setRoom_bc_er {x : St} {a : Int32} {b : Int32} {d : Int32} : s_X6_setRoom_bc (er x) a b d = er (s_X6_setRoom_bc x a b d) := by
  unfold s_X6_setRoom_bc
  simp only [FM_er, AM_er, setFM_er, setAM_er, ite_er, s_X6_failed_er]
theorem co_s_X6_setRoom_bc {x : St} {a : Int32} {b : Int32} {d : Int32} : co (s_X6_setRoom_bc x a b d) = co x := by
  unfold s_X6_setRoom_bc
  simp only [co_setFM, co_setAM, co_ite, ite_self, co_s_X6_failed]
theorem r_X6_read_ok_er {x : St} {i : Nat} {j : Nat} : r_X6_read_ok (er x) i j = r_X6_read_ok x i j := by
  unfold r_X6_read_ok
  simp only [FM_er, AM_er, setFM_er, setAM_er, ite_er, s_X6_fail_er, s_X6_use_er, r_X6_canStart_er, s_X6_start_er]
theorem s_X6_read_ok_er {x : St} {i : Nat} {j : Nat} : s_X6_read_ok (er x) i j = er (s_X6_read_ok x i j) := by
  unfold s_X6_read_ok
  simp only [FM_er, AM_er, setFM_er, setAM_er, ite_er, s_X6_fail_er, s_X6_use_er, r_X6_canStart_er, s_X6_start_er]
theorem co_s_X6_read_ok {x : St} {i : Nat} {j : Nat} : co (s_X6_read_ok x i j) = co x := by
  unfold s_X6_read_ok
  simp only [co_setFM, co_setAM, co_ite, ite_self, co_s_X6_fail, co_s_X6_use, co_s_X6_start]
theorem s_X6_read_bc_er {x : St} {a : Int32} {b : Int32} : s_X6_read_bc (er x) a b = er (s_X6_read_bc x a b) := by
  unfold s_X6_read_bc
  simp only [FM_er, AM_er, setFM_er, setAM_er, ite_er, s_X6_fail_er]
theorem co_s_X6_read_bc {x : St} {a : Int32} {b : Int32} : co (s_X6_read_bc x a b) = co x := by
  unfold s_X6_read_bc
  simp only [co_setFM, co_setAM, co_ite, ite_self, co_s_X6_fail]
theorem s_X6_read_bl_er {x : St} {i : Nat} {b : Int32} : s_X6_read_bl (er x) i b = er (s_X6_read_bl x i b) := by
  unfold s_X6_read_bl
  simp only [FM_er, AM_er, setFM_er, setAM_er, ite_er, s_X6_fail_er]
theorem co_s_X6_read_bl {x : St} {i : Nat} {b : Int32} : co (s_X6_read_bl x i b) = co x := by
  unfold s_X6_read_bl
  simp only [co_setFM, co_setAM, co_ite, ite_self, co_s_X6_fail]
theorem r_X6_write_ok_er {x : St} {i : Nat} {j : Nat} {d : Int32} : r_X6_write_ok (er x) i j d = r_X6_write_ok x i j d := by
  unfold r_X6_write_ok
  simp only [FM_er, AM_er, setFM_er, setAM_er, ite_er, s_X6_failed_er, s_X6_use_er, r_X6_canStart_er, s_X6_start_er]
theorem s_X6_write_ok_er {x : St} {i : Nat} {j : Nat} {d : Int32} : s_X6_write_ok (er x) i j d = er (s_X6_write_ok x i j d) := by
  unfold s_X6_write_ok
  simp only [FM_er, AM_er, setFM_er, setAM_er, ite_er, s_X6_failed_er, s_X6_use_er, r_X6_canStart_er, s_X6_start_er]
theorem co_s_X6_write_ok {x : St} {i : Nat} {j : Nat} {d : Int32} : co (s_X6_write_ok x i j d) = co x := by
  unfold s_X6_write_ok
  simp only [co_setFM, co_setAM, co_ite, ite_self, co_s_X6_failed, co_s_X6_use, co_s_X6_start]
theorem s_X6_write_bc_er {x : St} {a : Int32} {b : Int32} {d : Int32} : s_X6_write_bc (er x) a b d = er (s_X6_write_bc x a b d) := by
  unfold s_X6_write_bc
  simp only [FM_er, AM_er, setFM_er, setAM_er, ite_er, s_X6_failed_er]
theorem co_s_X6_write_bc {x : St} {a : Int32} {b : Int32} {d : Int32} : co (s_X6_write_bc x a b d) = co x := by
  unfold s_X6_write_bc
  simp only [co_setFM, co_setAM, co_ite, ite_self, co_s_X6_failed]
theorem s_X6_write_bl_er {x : St} {i : Nat} {b : Int32} {d : Int32} : s_X6_write_bl (er x) i b d = er (s_X6_write_bl x i b d) := by
  unfold s_X6_write_bl
  simp only [FM_er, AM_er, setFM_er, setAM_er, ite_er, s_X6_failed_er]
theorem co_s_X6_write_bl {x : St} {i : Nat} {b : Int32} {d : Int32} : co (s_X6_write_bl x i b d) = co x := by
  unfold s_X6_write_bl
  simp only [co_setFM, co_setAM, co_ite, ite_self, co_s_X6_failed]
theorem r_X6_evict_ok_er {x : St} {i : Nat} {j : Nat} : r_X6_evict_ok (er x) i j = r_X6_evict_ok x i j := by
  unfold r_X6_evict_ok
  simp only [FM_er, AM_er, setFM_er, setAM_er, ite_er, s_X6_fail_er, r_X6_canRemove_er, s_X6_remove_er]
theorem s_X6_evict_ok_er {x : St} {i : Nat} {j : Nat} : s_X6_evict_ok (er x) i j = er (s_X6_evict_ok x i j) := by
  unfold s_X6_evict_ok
  simp only [FM_er, AM_er, setFM_er, setAM_er, ite_er, s_X6_fail_er, r_X6_canRemove_er, s_X6_remove_er]
theorem co_s_X6_evict_ok {x : St} {i : Nat} {j : Nat} : co (s_X6_evict_ok x i j) = co x := by
  unfold s_X6_evict_ok
  simp only [co_setFM, co_setAM, co_ite, ite_self, co_s_X6_fail, co_s_X6_remove]
theorem s_X6_evict_bc_er {x : St} {a : Int32} {b : Int32} : s_X6_evict_bc (er x) a b = er (s_X6_evict_bc x a b) := by
  unfold s_X6_evict_bc
  simp only [FM_er, AM_er, setFM_er, setAM_er, ite_er, s_X6_fail_er]
theorem co_s_X6_evict_bc {x : St} {a : Int32} {b : Int32} : co (s_X6_evict_bc x a b) = co x := by
  unfold s_X6_evict_bc
  simp only [co_setFM, co_setAM, co_ite, ite_self, co_s_X6_fail]
theorem s_X6_evict_bl_er {x : St} {i : Nat} {b : Int32} : s_X6_evict_bl (er x) i b = er (s_X6_evict_bl x i b) := by
  unfold s_X6_evict_bl
  simp only [FM_er, AM_er, setFM_er, setAM_er, ite_er, s_X6_fail_er]
theorem co_s_X6_evict_bl {x : St} {i : Nat} {b : Int32} : co (s_X6_evict_bl x i b) = co x := by
  unfold s_X6_evict_bl
  simp only [co_setFM, co_setAM, co_ite, ite_self, co_s_X6_fail]
theorem r_X6_state_ok_er {x : St} {i : Nat} {j : Nat} : r_X6_state_ok (er x) i j = r_X6_state_ok x i j := by
  unfold r_X6_state_ok
  simp only [FM_er, AM_er, setFM_er, setAM_er, ite_er]
theorem s_X6_state_ok_er {x : St} {i : Nat} {j : Nat} : s_X6_state_ok (er x) i j = er (s_X6_state_ok x i j) := by
  unfold s_X6_state_ok
  simp only [FM_er, AM_er, setFM_er, setAM_er, ite_er]
theorem co_s_X6_state_ok {x : St} {i : Nat} {j : Nat} : co (s_X6_state_ok x i j) = co x := by
  unfold s_X6_state_ok
  simp only [co_setFM, co_setAM, co_ite, ite_self]
theorem s_X6_state_bc_er {x : St} {a : Int32} {b : Int32} : s_X6_state_bc (er x) a b = er (s_X6_state_bc x a b) := by
  unfold s_X6_state_bc
  simp only [FM_er, AM_er, setFM_er, setAM_er, ite_er, s_X6_fail_er]
theorem co_s_X6_state_bc {x : St} {a : Int32} {b : Int32} : co (s_X6_state_bc x a b) = co x := by
  unfold s_X6_state_bc
  simp only [co_setFM, co_setAM, co_ite, ite_self, co_s_X6_fail]
theorem s_X6_state_bl_er {x : St} {i : Nat} {b : Int32} : s_X6_state_bl (er x) i b = er (s_X6_state_bl x i b) := by
  unfold s_X6_state_bl
  simp only [FM_er, AM_er, setFM_er, setAM_er, ite_er, s_X6_fail_er]
theorem co_s_X6_state_bl {x : St} {i : Nat} {b : Int32} : co (s_X6_state_bl x i b) = co x := by
  unfold s_X6_state_bl
  simp only [co_setFM, co_setAM, co_ite, ite_self, co_s_X6_fail]
theorem r_X6_value_ok_er {x : St} {i : Nat} {j : Nat} : r_X6_value_ok (er x) i j = r_X6_value_ok x i j := by
  unfold r_X6_value_ok
  simp only [FM_er, AM_er, setFM_er, setAM_er, ite_er, s_X6_fail_er]
theorem s_X6_value_ok_er {x : St} {i : Nat} {j : Nat} : s_X6_value_ok (er x) i j = er (s_X6_value_ok x i j) := by
  unfold s_X6_value_ok
  simp only [FM_er, AM_er, setFM_er, setAM_er, ite_er, s_X6_fail_er]
theorem co_s_X6_value_ok {x : St} {i : Nat} {j : Nat} : co (s_X6_value_ok x i j) = co x := by
  unfold s_X6_value_ok
  simp only [co_setFM, co_setAM, co_ite, ite_self, co_s_X6_fail]
theorem s_X6_value_bc_er {x : St} {a : Int32} {b : Int32} : s_X6_value_bc (er x) a b = er (s_X6_value_bc x a b) := by
  unfold s_X6_value_bc
  simp only [FM_er, AM_er, setFM_er, setAM_er, ite_er, s_X6_fail_er]
theorem co_s_X6_value_bc {x : St} {a : Int32} {b : Int32} : co (s_X6_value_bc x a b) = co x := by
  unfold s_X6_value_bc
  simp only [co_setFM, co_setAM, co_ite, ite_self, co_s_X6_fail]
theorem s_X6_value_bl_er {x : St} {i : Nat} {b : Int32} : s_X6_value_bl (er x) i b = er (s_X6_value_bl x i b) := by
  unfold s_X6_value_bl
  simp only [FM_er, AM_er, setFM_er, setAM_er, ite_er, s_X6_fail_er]
theorem co_s_X6_value_bl {x : St} {i : Nat} {b : Int32} : co (s_X6_value_bl x i b) = co x := by
  unfold s_X6_value_bl
  simp only [co_setFM, co_setAM, co_ite, ite_self, co_s_X6_fail]
theorem r_X6_victimValue_ok_er {x : St} {i : Nat} {j : Nat} : r_X6_victimValue_ok (er x) i j = r_X6_victimValue_ok x i j := by
  unfold r_X6_victimValue_ok
  simp only [FM_er, AM_er, setFM_er, setAM_er, ite_er]
theorem s_X6_victimValue_ok_er {x : St} {i : Nat} {j : Nat} : s_X6_victimValue_ok (er x) i j = er (s_X6_victimValue_ok x i j) := by
  unfold s_X6_victimValue_ok
  simp only [FM_er, AM_er, setFM_er, setAM_er, ite_er]
theorem co_s_X6_victimValue_ok {x : St} {i : Nat} {j : Nat} : co (s_X6_victimValue_ok x i j) = co x := by
  unfold s_X6_victimValue_ok
  simp only [co_setFM, co_setAM, co_ite, ite_self]
theorem s_X6_victimValue_bc_er {x : St} {a : Int32} {b : Int32} : s_X6_victimValue_bc (er x) a b = er (s_X6_victimValue_bc x a b) := by
  unfold s_X6_victimValue_bc
  simp only [FM_er, AM_er, setFM_er, setAM_er, ite_er, s_X6_fail_er]
theorem co_s_X6_victimValue_bc {x : St} {a : Int32} {b : Int32} : co (s_X6_victimValue_bc x a b) = co x := by
  unfold s_X6_victimValue_bc
  simp only [co_setFM, co_setAM, co_ite, ite_self, co_s_X6_fail]
theorem s_X6_victimValue_bl_er {x : St} {i : Nat} {b : Int32} : s_X6_victimValue_bl (er x) i b = er (s_X6_victimValue_bl x i b) := by
  unfold s_X6_victimValue_bl
  simp only [FM_er, AM_er, setFM_er, setAM_er, ite_er, s_X6_fail_er]
theorem co_s_X6_victimValue_bl {x : St} {i : Nat} {b : Int32} : co (s_X6_victimValue_bl x i b) = co x := by
  unfold s_X6_victimValue_bl
  simp only [co_setFM, co_setAM, co_ite, ite_self, co_s_X6_fail]
theorem r_X6_openLine_ok_er {x : St} {i : Nat} : r_X6_openLine_ok (er x) i = r_X6_openLine_ok x i := by
  unfold r_X6_openLine_ok
  simp only [FM_er, AM_er, setFM_er, setAM_er, ite_er]
theorem s_X6_openLine_ok_er {x : St} {i : Nat} : s_X6_openLine_ok (er x) i = er (s_X6_openLine_ok x i) := by
  unfold s_X6_openLine_ok
  simp only [FM_er, AM_er, setFM_er, setAM_er, ite_er]
theorem co_s_X6_openLine_ok {x : St} {i : Nat} : co (s_X6_openLine_ok x i) = co x := by
  unfold s_X6_openLine_ok
  simp only [co_setFM, co_setAM, co_ite, ite_self]
theorem s_X6_openLine_bc_er {x : St} {a : Int32} : s_X6_openLine_bc (er x) a = er (s_X6_openLine_bc x a) := by
  unfold s_X6_openLine_bc
  simp only [FM_er, AM_er, setFM_er, setAM_er, ite_er, s_X6_fail_er]
theorem co_s_X6_openLine_bc {x : St} {a : Int32} : co (s_X6_openLine_bc x a) = co x := by
  unfold s_X6_openLine_bc
  simp only [co_setFM, co_setAM, co_ite, ite_self, co_s_X6_fail]
theorem r_X6_latestRead_ok_er {x : St} {i : Nat} : r_X6_latestRead_ok (er x) i = r_X6_latestRead_ok x i := by
  unfold r_X6_latestRead_ok
  simp only [FM_er, AM_er, setFM_er, setAM_er, ite_er]
theorem s_X6_latestRead_ok_er {x : St} {i : Nat} : s_X6_latestRead_ok (er x) i = er (s_X6_latestRead_ok x i) := by
  unfold s_X6_latestRead_ok
  simp only [FM_er, AM_er, setFM_er, setAM_er, ite_er]
theorem co_s_X6_latestRead_ok {x : St} {i : Nat} : co (s_X6_latestRead_ok x i) = co x := by
  unfold s_X6_latestRead_ok
  simp only [co_setFM, co_setAM, co_ite, ite_self]
theorem s_X6_latestRead_bc_er {x : St} {a : Int32} : s_X6_latestRead_bc (er x) a = er (s_X6_latestRead_bc x a) := by
  unfold s_X6_latestRead_bc
  simp only [FM_er, AM_er, setFM_er, setAM_er, ite_er, s_X6_fail_er]
theorem co_s_X6_latestRead_bc {x : St} {a : Int32} : co (s_X6_latestRead_bc x a) = co x := by
  unfold s_X6_latestRead_bc
  simp only [co_setFM, co_setAM, co_ite, ite_self, co_s_X6_fail]
theorem r_X6_hits_ok_er {x : St} {i : Nat} : r_X6_hits_ok (er x) i = r_X6_hits_ok x i := by
  unfold r_X6_hits_ok
  simp only [FM_er, AM_er, setFM_er, setAM_er, ite_er]
theorem s_X6_hits_ok_er {x : St} {i : Nat} : s_X6_hits_ok (er x) i = er (s_X6_hits_ok x i) := by
  unfold s_X6_hits_ok
  simp only [FM_er, AM_er, setFM_er, setAM_er, ite_er]
theorem co_s_X6_hits_ok {x : St} {i : Nat} : co (s_X6_hits_ok x i) = co x := by
  unfold s_X6_hits_ok
  simp only [co_setFM, co_setAM, co_ite, ite_self]
theorem s_X6_hits_bc_er {x : St} {a : Int32} : s_X6_hits_bc (er x) a = er (s_X6_hits_bc x a) := by
  unfold s_X6_hits_bc
  simp only [FM_er, AM_er, setFM_er, setAM_er, ite_er, s_X6_fail_er]
theorem co_s_X6_hits_bc {x : St} {a : Int32} : co (s_X6_hits_bc x a) = co x := by
  unfold s_X6_hits_bc
  simp only [co_setFM, co_setAM, co_ite, ite_self, co_s_X6_fail]
theorem r_X6_misses_ok_er {x : St} {i : Nat} : r_X6_misses_ok (er x) i = r_X6_misses_ok x i := by
  unfold r_X6_misses_ok
  simp only [FM_er, AM_er, setFM_er, setAM_er, ite_er]
theorem s_X6_misses_ok_er {x : St} {i : Nat} : s_X6_misses_ok (er x) i = er (s_X6_misses_ok x i) := by
  unfold s_X6_misses_ok
  simp only [FM_er, AM_er, setFM_er, setAM_er, ite_er]
theorem co_s_X6_misses_ok {x : St} {i : Nat} : co (s_X6_misses_ok x i) = co x := by
  unfold s_X6_misses_ok
  simp only [co_setFM, co_setAM, co_ite, ite_self]
theorem s_X6_misses_bc_er {x : St} {a : Int32} : s_X6_misses_bc (er x) a = er (s_X6_misses_bc x a) := by
  unfold s_X6_misses_bc
  simp only [FM_er, AM_er, setFM_er, setAM_er, ite_er, s_X6_fail_er]
theorem co_s_X6_misses_bc {x : St} {a : Int32} : co (s_X6_misses_bc x a) = co x := by
  unfold s_X6_misses_bc
  simp only [co_setFM, co_setAM, co_ite, ite_self, co_s_X6_fail]
theorem r_X6_owner_ok_er {x : St} {i : Nat} : r_X6_owner_ok (er x) i = r_X6_owner_ok x i := by
  unfold r_X6_owner_ok
  simp only [FM_er, AM_er, setFM_er, setAM_er, ite_er]
theorem s_X6_owner_ok_er {x : St} {i : Nat} : s_X6_owner_ok (er x) i = er (s_X6_owner_ok x i) := by
  unfold s_X6_owner_ok
  simp only [FM_er, AM_er, setFM_er, setAM_er, ite_er]
theorem co_s_X6_owner_ok {x : St} {i : Nat} : co (s_X6_owner_ok x i) = co x := by
  unfold s_X6_owner_ok
  simp only [co_setFM, co_setAM, co_ite, ite_self]
theorem s_X6_owner_bl_er {x : St} {a : Int32} : s_X6_owner_bl (er x) a = er (s_X6_owner_bl x a) := by
  unfold s_X6_owner_bl
  simp only [FM_er, AM_er, setFM_er, setAM_er, ite_er, s_X6_fail_er]
theorem co_s_X6_owner_bl {x : St} {a : Int32} : co (s_X6_owner_bl x a) = co x := by
  unfold s_X6_owner_bl
  simp only [co_setFM, co_setAM, co_ite, ite_self, co_s_X6_fail]
theorem r_X6_sharers_ok_er {x : St} {i : Nat} : r_X6_sharers_ok (er x) i = r_X6_sharers_ok x i := by
  unfold r_X6_sharers_ok
  simp only [FM_er, AM_er, setFM_er, setAM_er, ite_er]
theorem s_X6_sharers_ok_er {x : St} {i : Nat} : s_X6_sharers_ok (er x) i = er (s_X6_sharers_ok x i) := by
  unfold s_X6_sharers_ok
  simp only [FM_er, AM_er, setFM_er, setAM_er, ite_er]
theorem co_s_X6_sharers_ok {x : St} {i : Nat} : co (s_X6_sharers_ok x i) = co x := by
  unfold s_X6_sharers_ok
  simp only [co_setFM, co_setAM, co_ite, ite_self]
theorem s_X6_sharers_bl_er {x : St} {a : Int32} : s_X6_sharers_bl (er x) a = er (s_X6_sharers_bl x a) := by
  unfold s_X6_sharers_bl
  simp only [FM_er, AM_er, setFM_er, setAM_er, ite_er, s_X6_fail_er]
theorem co_s_X6_sharers_bl {x : St} {a : Int32} : co (s_X6_sharers_bl x a) = co x := by
  unfold s_X6_sharers_bl
  simp only [co_setFM, co_setAM, co_ite, ite_self, co_s_X6_fail]
theorem r_X6_queued_ok_er {x : St} {i : Nat} : r_X6_queued_ok (er x) i = r_X6_queued_ok x i := by
  unfold r_X6_queued_ok
  simp only [FM_er, AM_er, setFM_er, setAM_er, ite_er]
theorem s_X6_queued_ok_er {x : St} {i : Nat} : s_X6_queued_ok (er x) i = er (s_X6_queued_ok x i) := by
  unfold s_X6_queued_ok
  simp only [FM_er, AM_er, setFM_er, setAM_er, ite_er]
theorem co_s_X6_queued_ok {x : St} {i : Nat} : co (s_X6_queued_ok x i) = co x := by
  unfold s_X6_queued_ok
  simp only [co_setFM, co_setAM, co_ite, ite_self]
theorem s_X6_queued_bl_er {x : St} {a : Int32} : s_X6_queued_bl (er x) a = er (s_X6_queued_bl x a) := by
  unfold s_X6_queued_bl
  simp only [FM_er, AM_er, setFM_er, setAM_er, ite_er, s_X6_fail_er]
theorem co_s_X6_queued_bl {x : St} {a : Int32} : co (s_X6_queued_bl x a) = co x := by
  unfold s_X6_queued_bl
  simp only [co_setFM, co_setAM, co_ite, ite_self, co_s_X6_fail]
theorem r_X6_memory_ok_er {x : St} {i : Nat} : r_X6_memory_ok (er x) i = r_X6_memory_ok x i := by
  unfold r_X6_memory_ok
  simp only [FM_er, AM_er, setFM_er, setAM_er, ite_er]
theorem s_X6_memory_ok_er {x : St} {i : Nat} : s_X6_memory_ok (er x) i = er (s_X6_memory_ok x i) := by
  unfold s_X6_memory_ok
  simp only [FM_er, AM_er, setFM_er, setAM_er, ite_er]
theorem co_s_X6_memory_ok {x : St} {i : Nat} : co (s_X6_memory_ok x i) = co x := by
  unfold s_X6_memory_ok
  simp only [co_setFM, co_setAM, co_ite, ite_self]
theorem s_X6_memory_bl_er {x : St} {a : Int32} : s_X6_memory_bl (er x) a = er (s_X6_memory_bl x a) := by
  unfold s_X6_memory_bl
  simp only [FM_er, AM_er, setFM_er, setAM_er, ite_er, s_X6_fail_er]
theorem co_s_X6_memory_bl {x : St} {a : Int32} : co (s_X6_memory_bl x a) = co x := by
  unfold s_X6_memory_bl
  simp only [co_setFM, co_setAM, co_ite, ite_self, co_s_X6_fail]
theorem r_X6_isBusy_ok_er {x : St} {i : Nat} : r_X6_isBusy_ok (er x) i = r_X6_isBusy_ok x i := by
  unfold r_X6_isBusy_ok
  simp only [FM_er, AM_er, setFM_er, setAM_er, ite_er]
theorem s_X6_isBusy_ok_er {x : St} {i : Nat} : s_X6_isBusy_ok (er x) i = er (s_X6_isBusy_ok x i) := by
  unfold s_X6_isBusy_ok
  simp only [FM_er, AM_er, setFM_er, setAM_er, ite_er]
theorem co_s_X6_isBusy_ok {x : St} {i : Nat} : co (s_X6_isBusy_ok x i) = co x := by
  unfold s_X6_isBusy_ok
  simp only [co_setFM, co_setAM, co_ite, ite_self]
theorem s_X6_isBusy_bl_er {x : St} {a : Int32} : s_X6_isBusy_bl (er x) a = er (s_X6_isBusy_bl x a) := by
  unfold s_X6_isBusy_bl
  simp only [FM_er, AM_er, setFM_er, setAM_er, ite_er, s_X6_failed_er]
theorem co_s_X6_isBusy_bl {x : St} {a : Int32} : co (s_X6_isBusy_bl x a) = co x := by
  unfold s_X6_isBusy_bl
  simp only [co_setFM, co_setAM, co_ite, ite_self, co_s_X6_failed]
theorem r_X6_lineAt_ok_er {x : St} {i : Nat} {b : Int32} : r_X6_lineAt_ok (er x) i b = r_X6_lineAt_ok x i b := by
  unfold r_X6_lineAt_ok
  simp only [FM_er, AM_er, setFM_er, setAM_er, ite_er, s_X6_fail_er, r_X6_lineBy_er]
theorem s_X6_lineAt_ok_er {x : St} {i : Nat} {b : Int32} : s_X6_lineAt_ok (er x) i b = er (s_X6_lineAt_ok x i b) := by
  unfold s_X6_lineAt_ok
  simp only [FM_er, AM_er, setFM_er, setAM_er, ite_er, s_X6_fail_er, r_X6_lineBy_er]
theorem co_s_X6_lineAt_ok {x : St} {i : Nat} {b : Int32} : co (s_X6_lineAt_ok x i b) = co x := by
  unfold s_X6_lineAt_ok
  simp only [co_setFM, co_setAM, co_ite, ite_self, co_s_X6_fail]
theorem s_X6_lineAt_bc_er {x : St} {a : Int32} {b : Int32} : s_X6_lineAt_bc (er x) a b = er (s_X6_lineAt_bc x a b) := by
  unfold s_X6_lineAt_bc
  simp only [FM_er, AM_er, setFM_er, setAM_er, ite_er, s_X6_fail_er]
theorem co_s_X6_lineAt_bc {x : St} {a : Int32} {b : Int32} : co (s_X6_lineAt_bc x a b) = co x := by
  unfold s_X6_lineAt_bc
  simp only [co_setFM, co_setAM, co_ite, ite_self, co_s_X6_fail]
theorem r_X6_messageCount_er {x : St}  : r_X6_messageCount (er x)  = r_X6_messageCount x  := by
  unfold r_X6_messageCount
  simp only [FM_er, AM_er, setFM_er, setAM_er, ite_er]
theorem s_X6_messageCount_er {x : St}  : s_X6_messageCount (er x)  = er (s_X6_messageCount x ) := by
  unfold s_X6_messageCount
  simp only [FM_er, AM_er, setFM_er, setAM_er, ite_er]
theorem co_s_X6_messageCount {x : St}  : co (s_X6_messageCount x ) = co x := by
  unfold s_X6_messageCount
  simp only [co_setFM, co_setAM, co_ite, ite_self]
theorem r_X6_writebacks_er {x : St}  : r_X6_writebacks (er x)  = r_X6_writebacks x  := by
  unfold r_X6_writebacks
  simp only [FM_er, AM_er, setFM_er, setAM_er, ite_er]
theorem s_X6_writebacks_er {x : St}  : s_X6_writebacks (er x)  = er (s_X6_writebacks x ) := by
  unfold s_X6_writebacks
  simp only [FM_er, AM_er, setFM_er, setAM_er, ite_er]
theorem co_s_X6_writebacks {x : St}  : co (s_X6_writebacks x ) = co x := by
  unfold s_X6_writebacks
  simp only [co_setFM, co_setAM, co_ite, ite_self]
theorem r_X6_lateWritebacks_er {x : St}  : r_X6_lateWritebacks (er x)  = r_X6_lateWritebacks x  := by
  unfold r_X6_lateWritebacks
  simp only [FM_er, AM_er, setFM_er, setAM_er, ite_er]
theorem s_X6_lateWritebacks_er {x : St}  : s_X6_lateWritebacks (er x)  = er (s_X6_lateWritebacks x ) := by
  unfold s_X6_lateWritebacks
  simp only [FM_er, AM_er, setFM_er, setAM_er, ite_er]
theorem co_s_X6_lateWritebacks {x : St}  : co (s_X6_lateWritebacks x ) = co x := by
  unfold s_X6_lateWritebacks
  simp only [co_setFM, co_setAM, co_ite, ite_self]
theorem r_X6_part_ok_er {x : St} {k : Nat} {n : Nat} : r_X6_part_ok (er x) k n = r_X6_part_ok x k n := by
  unfold r_X6_part_ok
  simp only [FM_er, AM_er, setFM_er, setAM_er, ite_er]
theorem s_X6_part_ok_er {x : St} {k : Nat} {n : Nat} : s_X6_part_ok (er x) k n = er (s_X6_part_ok x k n) := by
  unfold s_X6_part_ok
  simp only [FM_er, AM_er, setFM_er, setAM_er, ite_er]
theorem co_s_X6_part_ok {x : St} {k : Nat} {n : Nat} : co (s_X6_part_ok x k n) = co x := by
  unfold s_X6_part_ok
  simp only [co_setFM, co_setAM, co_ite, ite_self]
theorem s_X6_part_no_er {x : St} {a : Int32} {n : Nat} : s_X6_part_no (er x) a n = er (s_X6_part_no x a n) := by
  unfold s_X6_part_no
  simp only [FM_er, AM_er, setFM_er, setAM_er, ite_er, s_X6_fail_er]
theorem co_s_X6_part_no {x : St} {a : Int32} {n : Nat} : co (s_X6_part_no x a n) = co x := by
  unfold s_X6_part_no
  simp only [co_setFM, co_setAM, co_ite, ite_self, co_s_X6_fail]
theorem r_X6_messageKind_ok_er {x : St} {k : Nat} : r_X6_messageKind_ok (er x) k = r_X6_messageKind_ok x k := by
  unfold r_X6_messageKind_ok
  simp only [FM_er, AM_er, setFM_er, setAM_er, ite_er, r_X6_part_ok_er, s_X6_part_ok_er]
theorem s_X6_messageKind_ok_er {x : St} {k : Nat} : s_X6_messageKind_ok (er x) k = er (s_X6_messageKind_ok x k) := by
  unfold s_X6_messageKind_ok
  simp only [FM_er, AM_er, setFM_er, setAM_er, ite_er, s_X6_part_ok_er]
theorem co_s_X6_messageKind_ok {x : St} {k : Nat} : co (s_X6_messageKind_ok x k) = co x := by
  unfold s_X6_messageKind_ok
  simp only [co_setFM, co_setAM, co_ite, ite_self, co_s_X6_part_ok]
theorem s_X6_messageKind_no_er {x : St} {a : Int32} : s_X6_messageKind_no (er x) a = er (s_X6_messageKind_no x a) := by
  unfold s_X6_messageKind_no
  simp only [FM_er, AM_er, setFM_er, setAM_er, ite_er, s_X6_part_no_er]
theorem co_s_X6_messageKind_no {x : St} {a : Int32} : co (s_X6_messageKind_no x a) = co x := by
  unfold s_X6_messageKind_no
  simp only [co_setFM, co_setAM, co_ite, ite_self, co_s_X6_part_no]
theorem r_X6_messageLine_ok_er {x : St} {k : Nat} : r_X6_messageLine_ok (er x) k = r_X6_messageLine_ok x k := by
  unfold r_X6_messageLine_ok
  simp only [FM_er, AM_er, setFM_er, setAM_er, ite_er, r_X6_part_ok_er, s_X6_part_ok_er]
theorem s_X6_messageLine_ok_er {x : St} {k : Nat} : s_X6_messageLine_ok (er x) k = er (s_X6_messageLine_ok x k) := by
  unfold s_X6_messageLine_ok
  simp only [FM_er, AM_er, setFM_er, setAM_er, ite_er, s_X6_part_ok_er]
theorem co_s_X6_messageLine_ok {x : St} {k : Nat} : co (s_X6_messageLine_ok x k) = co x := by
  unfold s_X6_messageLine_ok
  simp only [co_setFM, co_setAM, co_ite, ite_self, co_s_X6_part_ok]
theorem s_X6_messageLine_no_er {x : St} {a : Int32} : s_X6_messageLine_no (er x) a = er (s_X6_messageLine_no x a) := by
  unfold s_X6_messageLine_no
  simp only [FM_er, AM_er, setFM_er, setAM_er, ite_er, s_X6_part_no_er]
theorem co_s_X6_messageLine_no {x : St} {a : Int32} : co (s_X6_messageLine_no x a) = co x := by
  unfold s_X6_messageLine_no
  simp only [co_setFM, co_setAM, co_ite, ite_self, co_s_X6_part_no]
theorem r_X6_messageFrom_ok_er {x : St} {k : Nat} : r_X6_messageFrom_ok (er x) k = r_X6_messageFrom_ok x k := by
  unfold r_X6_messageFrom_ok
  simp only [FM_er, AM_er, setFM_er, setAM_er, ite_er, r_X6_part_ok_er, s_X6_part_ok_er]
theorem s_X6_messageFrom_ok_er {x : St} {k : Nat} : s_X6_messageFrom_ok (er x) k = er (s_X6_messageFrom_ok x k) := by
  unfold s_X6_messageFrom_ok
  simp only [FM_er, AM_er, setFM_er, setAM_er, ite_er, s_X6_part_ok_er]
theorem co_s_X6_messageFrom_ok {x : St} {k : Nat} : co (s_X6_messageFrom_ok x k) = co x := by
  unfold s_X6_messageFrom_ok
  simp only [co_setFM, co_setAM, co_ite, ite_self, co_s_X6_part_ok]
theorem s_X6_messageFrom_no_er {x : St} {a : Int32} : s_X6_messageFrom_no (er x) a = er (s_X6_messageFrom_no x a) := by
  unfold s_X6_messageFrom_no
  simp only [FM_er, AM_er, setFM_er, setAM_er, ite_er, s_X6_part_no_er]
theorem co_s_X6_messageFrom_no {x : St} {a : Int32} : co (s_X6_messageFrom_no x a) = co x := by
  unfold s_X6_messageFrom_no
  simp only [co_setFM, co_setAM, co_ite, ite_self, co_s_X6_part_no]
theorem r_X6_messageTo_ok_er {x : St} {k : Nat} : r_X6_messageTo_ok (er x) k = r_X6_messageTo_ok x k := by
  unfold r_X6_messageTo_ok
  simp only [FM_er, AM_er, setFM_er, setAM_er, ite_er, r_X6_part_ok_er, s_X6_part_ok_er]
theorem s_X6_messageTo_ok_er {x : St} {k : Nat} : s_X6_messageTo_ok (er x) k = er (s_X6_messageTo_ok x k) := by
  unfold s_X6_messageTo_ok
  simp only [FM_er, AM_er, setFM_er, setAM_er, ite_er, s_X6_part_ok_er]
theorem co_s_X6_messageTo_ok {x : St} {k : Nat} : co (s_X6_messageTo_ok x k) = co x := by
  unfold s_X6_messageTo_ok
  simp only [co_setFM, co_setAM, co_ite, ite_self, co_s_X6_part_ok]
theorem s_X6_messageTo_no_er {x : St} {a : Int32} : s_X6_messageTo_no (er x) a = er (s_X6_messageTo_no x a) := by
  unfold s_X6_messageTo_no
  simp only [FM_er, AM_er, setFM_er, setAM_er, ite_er, s_X6_part_no_er]
theorem co_s_X6_messageTo_no {x : St} {a : Int32} : co (s_X6_messageTo_no x a) = co x := by
  unfold s_X6_messageTo_no
  simp only [co_setFM, co_setAM, co_ite, ite_self, co_s_X6_part_no]
theorem lp_X6_isInOrder_ok_34_er {x : St} {j : Nat} {b34_0 : Int32} {b34_1 : Int32} {b34_2 : Int32} {b34_3 : Int32} {b34_4 : Nat} : ∀ (n : Nat), lp_X6_isInOrder_ok_34 (er x) j b34_0 b34_1 b34_2 b34_3 b34_4 n = lp_X6_isInOrder_ok_34 x j b34_0 b34_1 b34_2 b34_3 b34_4 n := by
  intro n
  induction n with
  | zero =>
    skip
    unfold lp_X6_isInOrder_ok_34
    first | rfl | simp only [FM_er, AM_er, setFM_er, setAM_er, ite_er]
  | succ n ih =>
    skip
    unfold lp_X6_isInOrder_ok_34
    simp only [ih, FM_er, AM_er, setFM_er, setAM_er, ite_er, ite_er2]
theorem r_X6_isInOrder_ok_er {x : St} {j : Nat} : r_X6_isInOrder_ok (er x) j = r_X6_isInOrder_ok x j := by
  unfold r_X6_isInOrder_ok
  simp only [FM_er, AM_er, setFM_er, setAM_er, ite_er, lp_X6_isInOrder_ok_34_er]
theorem s_X6_isInOrder_ok_er {x : St} {j : Nat} : s_X6_isInOrder_ok (er x) j = er (s_X6_isInOrder_ok x j) := by
  unfold s_X6_isInOrder_ok
  simp only [FM_er, AM_er, setFM_er, setAM_er, ite_er, lp_X6_isInOrder_ok_34_er]
theorem co_s_X6_isInOrder_ok {x : St} {j : Nat} : co (s_X6_isInOrder_ok x j) = co x := by
  unfold s_X6_isInOrder_ok
  simp only [co_setFM, co_setAM, co_ite, ite_self]
theorem s_X6_isInOrder_bl_er {x : St} {a : Int32} : s_X6_isInOrder_bl (er x) a = er (s_X6_isInOrder_bl x a) := by
  unfold s_X6_isInOrder_bl
  simp only [FM_er, AM_er, setFM_er, setAM_er, ite_er, s_X6_failed_er]
theorem co_s_X6_isInOrder_bl {x : St} {a : Int32} : co (s_X6_isInOrder_bl x a) = co x := by
  unfold s_X6_isInOrder_bl
  simp only [co_setFM, co_setAM, co_ite, ite_self, co_s_X6_failed]
theorem lp_X6_digest_212_er {x : St} {a201 : Nat} {b212_0 : Int64} : ∀ (n : Nat), lp_X6_digest_212 (er x) a201 b212_0 n = lp_X6_digest_212 x a201 b212_0 n := by
  intro n
  induction n with
  | zero =>
    skip
    unfold lp_X6_digest_212
    first | rfl | simp only [FM_er, AM_er, setFM_er, setAM_er, ite_er]
  | succ n ih =>
    skip
    unfold lp_X6_digest_212
    simp only [ih, FM_er, AM_er, setFM_er, setAM_er, ite_er, ite_er2]
theorem lp_X6_digest_201_er {x : St} {b201_0 : Int64} : ∀ (n : Nat), lp_X6_digest_201 (er x) b201_0 n = lp_X6_digest_201 x b201_0 n := by
  intro n
  induction n with
  | zero =>
    skip
    unfold lp_X6_digest_201
    first | rfl | simp only [FM_er, AM_er, setFM_er, setAM_er, ite_er, lp_X6_digest_212_er]
  | succ n ih =>
    skip
    unfold lp_X6_digest_201
    simp only [ih, FM_er, AM_er, setFM_er, setAM_er, ite_er, lp_X6_digest_212_er, ite_er2]
theorem lp_X6_digest_174_er {x : St} {b174_0 : Int64} : ∀ (n : Nat), lp_X6_digest_174 (er x) b174_0 n = lp_X6_digest_174 x b174_0 n := by
  intro n
  induction n with
  | zero =>
    skip
    unfold lp_X6_digest_174
    first | rfl | simp only [FM_er, AM_er, setFM_er, setAM_er, ite_er]
  | succ n ih =>
    skip
    unfold lp_X6_digest_174
    simp only [ih, FM_er, AM_er, setFM_er, setAM_er, ite_er, ite_er2]
theorem lp_X6_digest_91_er {x : St} {a11 : Nat} {b91_0 : Int64} : ∀ (n : Nat), lp_X6_digest_91 (er x) a11 b91_0 n = lp_X6_digest_91 x a11 b91_0 n := by
  intro n
  induction n with
  | zero =>
    skip
    unfold lp_X6_digest_91
    first | rfl | simp only [FM_er, AM_er, setFM_er, setAM_er, ite_er]
  | succ n ih =>
    skip
    unfold lp_X6_digest_91
    simp only [ih, FM_er, AM_er, setFM_er, setAM_er, ite_er, ite_er2]
theorem lp_X6_digest_11_er {x : St} {b11_0 : Int64} : ∀ (n : Nat), lp_X6_digest_11 (er x) b11_0 n = lp_X6_digest_11 x b11_0 n := by
  intro n
  induction n with
  | zero =>
    skip
    unfold lp_X6_digest_11
    first | rfl | simp only [FM_er, AM_er, setFM_er, setAM_er, ite_er, lp_X6_digest_91_er]
  | succ n ih =>
    skip
    unfold lp_X6_digest_11
    simp only [ih, FM_er, AM_er, setFM_er, setAM_er, ite_er, lp_X6_digest_91_er, ite_er2]
theorem r_X6_digest_er {x : St}  : r_X6_digest (er x)  = r_X6_digest x  := by
  unfold r_X6_digest
  simp only [FM_er, AM_er, setFM_er, setAM_er, ite_er, lp_X6_digest_201_er, lp_X6_digest_174_er, lp_X6_digest_11_er]
theorem s_X6_digest_er {x : St}  : s_X6_digest (er x)  = er (s_X6_digest x ) := by
  unfold s_X6_digest
  simp only [FM_er, AM_er, setFM_er, setAM_er, ite_er]
theorem co_s_X6_digest {x : St}  : co (s_X6_digest x ) = co x := by
  unfold s_X6_digest
  simp only [co_setFM, co_setAM, co_ite, ite_self]
theorem s_X6_complete_er {x : St} {i : Nat} : s_X6_complete (er x) i = er (s_X6_complete x i) := by
  unfold s_X6_complete
  simp only [FM_er, AM_er, setFM_er, setAM_er, ite_er, s_X6_use_er, s_X6_send_er]
theorem co_s_X6_complete {x : St} {i : Nat} : co (s_X6_complete x i) = co x := by
  unfold s_X6_complete
  simp only [co_setFM, co_setAM, co_ite, ite_self, co_s_X6_use, co_s_X6_send]
theorem s_X6_receive_er {x : St} {i : Nat} {j : Nat} : s_X6_receive (er x) i j = er (s_X6_receive x i j) := by
  unfold s_X6_receive
  simp only [FM_er, AM_er, setFM_er, setAM_er, ite_er, s_X6_send_er, s_X6_complete_er]
theorem co_s_X6_receive {x : St} {i : Nat} {j : Nat} : co (s_X6_receive x i j) = co x := by
  unfold s_X6_receive
  simp only [co_setFM, co_setAM, co_ite, ite_self, co_s_X6_send, co_s_X6_complete]
theorem lp_X6_enqueue_17_er {x : St} {j : Nat} {b17_0 : St} : ∀ (n : Nat), lp_X6_enqueue_17 (er x) j (er b17_0) n = er (lp_X6_enqueue_17 x j b17_0 n) := by
  intro n
  induction n with
  | zero =>
    skip
    unfold lp_X6_enqueue_17
    first | rfl | simp only [FM_er, AM_er, setFM_er, setAM_er, ite_er]
  | succ n ih =>
    skip
    unfold lp_X6_enqueue_17
    simp only [ih, FM_er, AM_er, setFM_er, setAM_er, ite_er, ite_er2]
theorem co_lp_X6_enqueue_17 {x : St} {j : Nat} {b17_0 : St} : ∀ (n : Nat), co (lp_X6_enqueue_17 x j b17_0 n) = co b17_0 := by
  intro n
  induction n with
  | zero =>
    skip
    unfold lp_X6_enqueue_17
    first | rfl | simp only [co_setFM, co_setAM, co_ite, ite_self]
  | succ n ih =>
    skip
    unfold lp_X6_enqueue_17
    simp only [ih, co_setFM, co_setAM, co_ite, ite_self]
theorem s_X6_enqueue_er {x : St} {j : Nat} : s_X6_enqueue (er x) j = er (s_X6_enqueue x j) := by
  unfold s_X6_enqueue
  simp only [FM_er, AM_er, setFM_er, setAM_er, ite_er, lp_X6_enqueue_17_er]
theorem co_s_X6_enqueue {x : St} {j : Nat} : co (s_X6_enqueue x j) = co x := by
  unfold s_X6_enqueue
  simp only [co_setFM, co_setAM, co_ite, ite_self, co_lp_X6_enqueue_17]
theorem lp_X6_process_163_er {x : St} {j : Nat} {a : Int32} {b163_0 : Nat} {b163_1 : St} : ∀ (n : Nat), lp_X6_process_163 (er x) j a b163_0 (er b163_1) n = ((lp_X6_process_163 x j a b163_0 b163_1 n).1, er (lp_X6_process_163 x j a b163_0 b163_1 n).2) := by
  intro n
  induction n with
  | zero =>
    skip
    unfold lp_X6_process_163
    first | rfl | simp only [FM_er, AM_er, setFM_er, setAM_er, ite_er, s_X6_send_er]
  | succ n ih =>
    skip
    unfold lp_X6_process_163
    simp only [ih, FM_er, AM_er, setFM_er, setAM_er, ite_er, s_X6_send_er, ite_er2]
theorem co_lp_X6_process_163 {x : St} {j : Nat} {a : Int32} {b163_0 : Nat} {b163_1 : St} : ∀ (n : Nat), co (lp_X6_process_163 x j a b163_0 b163_1 n).2 = co b163_1 := by
  intro n
  induction n with
  | zero =>
    skip
    unfold lp_X6_process_163
    first | rfl | simp only [co_setFM, co_setAM, co_ite, ite_self, co_s_X6_send, apply_ite Prod.snd]
  | succ n ih =>
    skip
    unfold lp_X6_process_163
    simp only [ih, co_setFM, co_setAM, co_ite, ite_self, co_s_X6_send, apply_ite Prod.snd]
theorem s_X6_process_er {x : St} {j : Nat} {a : Int32} : s_X6_process (er x) j a = er (s_X6_process x j a) := by
  unfold s_X6_process
  simp only [FM_er, AM_er, setFM_er, setAM_er, ite_er, s_X6_send_er, lp_X6_process_163_er]
theorem co_s_X6_process {x : St} {j : Nat} {a : Int32} : co (s_X6_process x j a) = co x := by
  unfold s_X6_process
  simp only [co_setFM, co_setAM, co_ite, ite_self, co_s_X6_send, co_lp_X6_process_163]
theorem lp_X6_free_73_er {x : St} {j : Nat} {a15 : Nat} {y : St} {b73_0 : St} : ∀ (n : Nat), lp_X6_free_73 (er x) j a15 (er y) (er b73_0) n = er (lp_X6_free_73 x j a15 y b73_0 n) := by
  intro n
  induction n with
  | zero =>
    skip
    unfold lp_X6_free_73
    first | rfl | simp only [FM_er, AM_er, setFM_er, setAM_er, ite_er]
  | succ n ih =>
    skip
    unfold lp_X6_free_73
    simp only [ih, FM_er, AM_er, setFM_er, setAM_er, ite_er, ite_er2]
theorem co_lp_X6_free_73 {x : St} {j : Nat} {a15 : Nat} {y : St} {b73_0 : St} : ∀ (n : Nat), co (lp_X6_free_73 x j a15 y b73_0 n) = co b73_0 := by
  intro n
  induction n with
  | zero =>
    skip
    unfold lp_X6_free_73
    first | rfl | simp only [co_setFM, co_setAM, co_ite, ite_self]
  | succ n ih =>
    skip
    unfold lp_X6_free_73
    simp only [ih, co_setFM, co_setAM, co_ite, ite_self]
theorem lp_X6_free_35_er {x : St} {j : Nat} {a15 : Nat} {y : St} {b35_0 : St} : ∀ (n : Nat), lp_X6_free_35 (er x) j a15 (er y) (er b35_0) n = er (lp_X6_free_35 x j a15 y b35_0 n) := by
  intro n
  induction n with
  | zero =>
    skip
    unfold lp_X6_free_35
    first | rfl | simp only [FM_er, AM_er, setFM_er, setAM_er, ite_er]
  | succ n ih =>
    skip
    unfold lp_X6_free_35
    simp only [ih, FM_er, AM_er, setFM_er, setAM_er, ite_er, ite_er2]
theorem co_lp_X6_free_35 {x : St} {j : Nat} {a15 : Nat} {y : St} {b35_0 : St} : ∀ (n : Nat), co (lp_X6_free_35 x j a15 y b35_0 n) = co b35_0 := by
  intro n
  induction n with
  | zero =>
    skip
    unfold lp_X6_free_35
    first | rfl | simp only [co_setFM, co_setAM, co_ite, ite_self]
  | succ n ih =>
    skip
    unfold lp_X6_free_35
    simp only [ih, co_setFM, co_setAM, co_ite, ite_self]
theorem lq_X6_free_15_er {x : St} {j : Nat} : ∀ (n : Nat) (u1 : Nat) (u2 : St), lq_X6_free_15 (er x) j n u1 (er u2) = er (lq_X6_free_15 x j n u1 u2) := by
  intro n
  induction n with
  | zero =>
    intro u1 u2
    unfold lq_X6_free_15
    first | rfl | simp only [FM_er, AM_er, setFM_er, setAM_er, ite_er, s_X6_process_er, lp_X6_free_73_er, lp_X6_free_35_er]
  | succ n ih =>
    intro u1 u2
    unfold lq_X6_free_15
    simp only [ih, FM_er, AM_er, setFM_er, setAM_er, ite_er, s_X6_process_er, lp_X6_free_73_er, lp_X6_free_35_er, ite_er2]
theorem co_lq_X6_free_15 {x : St} {j : Nat} : ∀ (n : Nat) (u1 : Nat) (u2 : St), co (lq_X6_free_15 x j n u1 u2) = co u2 := by
  intro n
  induction n with
  | zero =>
    intro u1 u2
    unfold lq_X6_free_15
    first | rfl | simp only [co_setFM, co_setAM, co_ite, ite_self, co_s_X6_process, co_lp_X6_free_73, co_lp_X6_free_35]
  | succ n ih =>
    intro u1 u2
    unfold lq_X6_free_15
    simp only [ih, co_setFM, co_setAM, co_ite, ite_self, co_s_X6_process, co_lp_X6_free_73, co_lp_X6_free_35]
theorem s_X6_free_er {x : St} {j : Nat} : s_X6_free (er x) j = er (s_X6_free x j) := by
  unfold s_X6_free
  simp only [FM_er, AM_er, setFM_er, setAM_er, ite_er, lq_X6_free_15_er]
theorem co_s_X6_free {x : St} {j : Nat} : co (s_X6_free x j) = co x := by
  unfold s_X6_free
  simp only [co_setFM, co_setAM, co_ite, ite_self, co_lq_X6_free_15]
theorem lp_X6_take_46_er {x : St} {k : Nat} {b46_0 : St} : ∀ (n : Nat), lp_X6_take_46 (er x) k (er b46_0) n = er (lp_X6_take_46 x k b46_0 n) := by
  intro n
  induction n with
  | zero =>
    skip
    unfold lp_X6_take_46
    first | rfl | simp only [FM_er, AM_er, setFM_er, setAM_er, ite_er]
  | succ n ih =>
    skip
    unfold lp_X6_take_46
    simp only [ih, FM_er, AM_er, setFM_er, setAM_er, ite_er, ite_er2]
theorem co_lp_X6_take_46 {x : St} {k : Nat} {b46_0 : St} : ∀ (n : Nat), co (lp_X6_take_46 x k b46_0 n) = co b46_0 := by
  intro n
  induction n with
  | zero =>
    skip
    unfold lp_X6_take_46
    first | rfl | simp only [co_setFM, co_setAM, co_ite, ite_self]
  | succ n ih =>
    skip
    unfold lp_X6_take_46
    simp only [ih, co_setFM, co_setAM, co_ite, ite_self]
theorem lp_X6_take_2_er {x : St} {k : Nat} {b2_0 : St} : ∀ (n : Nat), lp_X6_take_2 (er x) k (er b2_0) n = er (lp_X6_take_2 x k b2_0 n) := by
  intro n
  induction n with
  | zero =>
    skip
    unfold lp_X6_take_2
    first | rfl | simp only [FM_er, AM_er, setFM_er, setAM_er, ite_er]
  | succ n ih =>
    skip
    unfold lp_X6_take_2
    simp only [ih, FM_er, AM_er, setFM_er, setAM_er, ite_er, ite_er2]
theorem co_lp_X6_take_2 {x : St} {k : Nat} {b2_0 : St} : ∀ (n : Nat), co (lp_X6_take_2 x k b2_0 n) = co b2_0 := by
  intro n
  induction n with
  | zero =>
    skip
    unfold lp_X6_take_2
    first | rfl | simp only [co_setFM, co_setAM, co_ite, ite_self]
  | succ n ih =>
    skip
    unfold lp_X6_take_2
    simp only [ih, co_setFM, co_setAM, co_ite, ite_self]
theorem s_X6_take_er {x : St} {k : Nat} : s_X6_take (er x) k = er (s_X6_take x k) := by
  unfold s_X6_take
  simp only [FM_er, AM_er, setFM_er, setAM_er, ite_er, s_X6_receive_er, s_X6_enqueue_er, s_X6_process_er, s_X6_free_er, lp_X6_take_46_er, lp_X6_take_2_er]
theorem co_s_X6_take {x : St} {k : Nat} : co (s_X6_take x k) = co x := by
  unfold s_X6_take
  simp only [co_setFM, co_setAM, co_ite, ite_self, co_s_X6_receive, co_s_X6_enqueue, co_s_X6_process, co_s_X6_free, co_lp_X6_take_46, co_lp_X6_take_2]
theorem r_X6_deliver_ok_er {x : St} {k : Nat} : r_X6_deliver_ok (er x) k = r_X6_deliver_ok x k := by
  unfold r_X6_deliver_ok
  simp only [FM_er, AM_er, setFM_er, setAM_er, ite_er, s_X6_take_er]
theorem s_X6_deliver_ok_er {x : St} {k : Nat} : s_X6_deliver_ok (er x) k = er (s_X6_deliver_ok x k) := by
  unfold s_X6_deliver_ok
  simp only [FM_er, AM_er, setFM_er, setAM_er, ite_er, s_X6_take_er]
theorem co_s_X6_deliver_ok {x : St} {k : Nat} : co (s_X6_deliver_ok x k) = co x := by
  unfold s_X6_deliver_ok
  simp only [co_setFM, co_setAM, co_ite, ite_self, co_s_X6_take]
theorem s_X6_deliver_no_er {x : St} {a : Int32} : s_X6_deliver_no (er x) a = er (s_X6_deliver_no x a) := by
  unfold s_X6_deliver_no
  simp only [FM_er, AM_er, setFM_er, setAM_er, ite_er, s_X6_fail_er]
theorem co_s_X6_deliver_no {x : St} {a : Int32} : co (s_X6_deliver_no x a) = co x := by
  unfold s_X6_deliver_no
  simp only [co_setFM, co_setAM, co_ite, ite_self, co_s_X6_fail]
theorem lq_X6_settle_ok_24_er {x : St} {k : Nat} : ∀ (n : Nat) (u1 : Nat) (u2 : St), lq_X6_settle_ok_24 (er x) k n u1 (er u2) = ((lq_X6_settle_ok_24 x k n u1 u2).1, er (lq_X6_settle_ok_24 x k n u1 u2).2) := by
  intro n
  induction n with
  | zero =>
    intro u1 u2
    unfold lq_X6_settle_ok_24
    first | rfl | simp only [FM_er, AM_er, setFM_er, setAM_er, ite_er, s_X6_take_er]
  | succ n ih =>
    intro u1 u2
    unfold lq_X6_settle_ok_24
    simp only [ih, FM_er, AM_er, setFM_er, setAM_er, ite_er, s_X6_take_er, ite_er2]
theorem co_lq_X6_settle_ok_24 {x : St} {k : Nat} : ∀ (n : Nat) (u1 : Nat) (u2 : St), co (lq_X6_settle_ok_24 x k n u1 u2).2 = co u2 := by
  intro n
  induction n with
  | zero =>
    intro u1 u2
    unfold lq_X6_settle_ok_24
    first | rfl | simp only [co_setFM, co_setAM, co_ite, ite_self, co_s_X6_take, apply_ite Prod.snd]
  | succ n ih =>
    intro u1 u2
    unfold lq_X6_settle_ok_24
    simp only [ih, co_setFM, co_setAM, co_ite, ite_self, co_s_X6_take, apply_ite Prod.snd]
theorem r_X6_settle_ok_er {x : St} {k : Nat} : r_X6_settle_ok (er x) k = r_X6_settle_ok x k := by
  unfold r_X6_settle_ok
  simp only [FM_er, AM_er, setFM_er, setAM_er, ite_er, lq_X6_settle_ok_24_er]
theorem s_X6_settle_ok_er {x : St} {k : Nat} : s_X6_settle_ok (er x) k = er (s_X6_settle_ok x k) := by
  unfold s_X6_settle_ok
  simp only [FM_er, AM_er, setFM_er, setAM_er, ite_er, lq_X6_settle_ok_24_er]
theorem co_s_X6_settle_ok {x : St} {k : Nat} : co (s_X6_settle_ok x k) = co x := by
  unfold s_X6_settle_ok
  simp only [co_setFM, co_setAM, co_ite, ite_self, co_lq_X6_settle_ok_24]
theorem s_X6_settle_no_er {x : St} {a : Int32} : s_X6_settle_no (er x) a = er (s_X6_settle_no x a) := by
  unfold s_X6_settle_no
  simp only [FM_er, AM_er, setFM_er, setAM_er, ite_er, s_X6_fail_er]
theorem co_s_X6_settle_no {x : St} {a : Int32} : co (s_X6_settle_no x a) = co x := by
  unfold s_X6_settle_no
  simp only [co_setFM, co_setAM, co_ite, ite_self, co_s_X6_fail]
theorem co.eqs {x y : St} (h : co y = co x) : y.FL = x.FL ∧ y.LD = x.LD ∧ y.PL = x.PL ∧ y.PK = x.PK ∧ y.MF = x.MF ∧ y.BN = x.BN ∧ y.BR = x.BR :=
  ⟨congrArg St.FL h, congrArg St.LD h, congrArg St.PL h, congrArg St.PK h, congrArg St.MF h, congrArg St.BN h, congrArg St.BR h⟩
/-- a step of the model, seen in the view -/
theorem VW.model {x y : St} {v : Vw} {p hs : List (Nat × M7)} (h : VW x v p hs) (h1 : co y = co x) : VW y (Vw.mk (er y) v.q) p hs := by
  obtain ⟨e1, e2, e3, e4, e5, e6, e7⟩ := co.eqs h1
  obtain ⟨-, L, h2, h3, h4, h5⟩ := h
  refine ⟨rfl, L, ?_, fun j hj => ?_, fun m hm => ?_, fun m hm => ?_⟩
  · unfold WFL at h2 ⊢
    rw [e1, e2, e3, e4, e6, e7]
    exact h2
  · rw [e5]
    exact h3 j hj
  · rw [e5]
    exact h4 m hm
  · rw [e3, e4, e5]
    exact h5 m hm
