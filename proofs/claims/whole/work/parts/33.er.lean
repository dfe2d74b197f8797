/-- the part of the state that the model doesn't touch -/
def co (x : St) : St := St.mk x.FC x.FR x.AC x.FH x.FL x.LD (fun _ => 0) (fun _ _ => 0) x.OU x.PL x.PK x.MF x.BN x.BR
theorem FM_er {x : St} : (er x).FM = x.FM := rfl
theorem AM_er {x : St} : (er x).AM = x.AM := rfl
theorem setFM_er {x : St} {k : Nat} {w : Int32} : (er x).setFM k w = er (x.setFM k w) := rfl
theorem setAM_er {x : St} {k : Nat} {f : Nat → Int32} : (er x).setAM k f = er (x.setAM k f) := rfl
theorem ite_er {c : Prop} [Decidable c] {a b : St} : (if c then er a else er b) = er (if c then a else b) := by
  split <;> rfl
theorem co_setFM {x : St} {k : Nat} {w : Int32} : co (x.setFM k w) = co x := rfl
theorem co_setAM {x : St} {k : Nat} {f : Nat → Int32} : co (x.setAM k f) = co x := rfl
theorem co_ite {c : Prop} [Decidable c] {a b : St} : co (if c then a else b) = if c then co a else co b := by
  split <;> rfl
theorem co_if {c : Prop} [Decidable c] {a b : St} {z : St} (h1 : co a = z) (h2 : co b = z) : co (if c then a else b) = z := by
  split <;> assumption
theorem co_ifp {c : Prop} [Decidable c] {α : Type} {a b : α × St} {z : St} (h1 : co a.2 = z) (h2 : co b.2 = z) : co (if c then a else b).2 = z := by
  split <;> assumption
theorem ite_er2 {c : Prop} [Decidable c] {α : Type} {a b : St} {u w : α} : (if c then (u, er a) else (w, er b)) = ((if c then (u, a) else (w, b)).1, er (if c then (u, a) else (w, b)).2) := by
  split <;> rfl
theorem co_s_X6_fail {x : St} {a : Int32} : co (s_X6_fail x a) = co x := by
  unfold s_X6_fail
  repeat' (with_reducible first | rfl | refine co_if ?_ ?_ | refine co_ifp ?_ ?_ | refine co_setFM.trans ?_ | refine co_setAM.trans ?_)
theorem co_s_X6_failed {x : St} {a : Int32} : co (s_X6_failed x a) = co x := by
  unfold s_X6_failed
  repeat' (with_reducible first | rfl | refine co_if ?_ ?_ | refine co_ifp ?_ ?_ | refine co_setFM.trans ?_ | refine co_setAM.trans ?_)
theorem co_s_X6_use {x : St} {i : Nat} {j : Nat} : co (s_X6_use x i j) = co x := by
  unfold s_X6_use
  repeat' (with_reducible first | rfl | refine co_if ?_ ?_ | refine co_ifp ?_ ?_ | refine co_setFM.trans ?_ | refine co_setAM.trans ?_)
theorem co_s_X6_send {x : St} {mk : Int32} {ml : Int32} {mf : Int32} {mt : Int32} {mv : Int32} {mn : Int32} {mr : Int32} : co (s_X6_send x mk ml mf mt mv mn mr) = co x := by
  unfold s_X6_send
  repeat' (with_reducible first | rfl | refine co_if ?_ ?_ | refine co_ifp ?_ ?_ | refine co_setFM.trans ?_ | refine co_setAM.trans ?_)
theorem co_s_X6_remove {x : St} {i : Nat} {j : Nat} : co (s_X6_remove x i j) = co x := by
  unfold s_X6_remove
  repeat' (with_reducible first | rfl | refine co_if ?_ ?_ | refine co_ifp ?_ ?_ | refine co_s_X6_send.trans ?_ | refine (co_s_X6_send _).trans ?_ | refine (co_s_X6_send _ _).trans ?_ | refine (co_s_X6_send _ _ _).trans ?_ | refine co_setFM.trans ?_ | refine co_setAM.trans ?_)
theorem co_s_X6_start {x : St} {i : Nat} {j : Nat} {w : Int32} {a : Int32} : co (s_X6_start x i j w a) = co x := by
  unfold s_X6_start
  repeat' (with_reducible first | rfl | refine co_if ?_ ?_ | refine co_ifp ?_ ?_ | refine co_s_X6_send.trans ?_ | refine co_s_X6_remove.trans ?_ | refine (co_s_X6_send _).trans ?_ | refine (co_s_X6_remove _).trans ?_ | refine (co_s_X6_send _ _).trans ?_ | refine (co_s_X6_remove _ _).trans ?_ | refine (co_s_X6_send _ _ _).trans ?_ | refine (co_s_X6_remove _ _ _).trans ?_ | refine co_setFM.trans ?_ | refine co_setAM.trans ?_)
theorem co_s_X6_setRoom_ok {x : St} {i : Nat} {b : Int32} {d : Int32} : co (s_X6_setRoom_ok x i b d) = co x := by
  unfold s_X6_setRoom_ok
  repeat' (with_reducible first | rfl | refine co_if ?_ ?_ | refine co_ifp ?_ ?_ | refine co_s_X6_failed.trans ?_ | refine (co_s_X6_failed _).trans ?_ | refine (co_s_X6_failed _ _).trans ?_ | refine (co_s_X6_failed _ _ _).trans ?_ | refine co_setFM.trans ?_ | refine co_setAM.trans ?_)
theorem co_s_X6_setRoom_bc {x : St} {a : Int32} {b : Int32} {d : Int32} : co (s_X6_setRoom_bc x a b d) = co x := by
  unfold s_X6_setRoom_bc
  repeat' (with_reducible first | rfl | refine co_if ?_ ?_ | refine co_ifp ?_ ?_ | refine co_s_X6_failed.trans ?_ | refine (co_s_X6_failed _).trans ?_ | refine (co_s_X6_failed _ _).trans ?_ | refine (co_s_X6_failed _ _ _).trans ?_ | refine co_setFM.trans ?_ | refine co_setAM.trans ?_)
theorem co_s_X6_read_ok {x : St} {i : Nat} {j : Nat} : co (s_X6_read_ok x i j) = co x := by
  unfold s_X6_read_ok
  repeat' (with_reducible first | rfl | refine co_if ?_ ?_ | refine co_ifp ?_ ?_ | refine co_s_X6_fail.trans ?_ | refine co_s_X6_use.trans ?_ | refine co_s_X6_start.trans ?_ | refine (co_s_X6_fail _).trans ?_ | refine (co_s_X6_use _).trans ?_ | refine (co_s_X6_start _).trans ?_ | refine (co_s_X6_fail _ _).trans ?_ | refine (co_s_X6_use _ _).trans ?_ | refine (co_s_X6_start _ _).trans ?_ | refine (co_s_X6_fail _ _ _).trans ?_ | refine (co_s_X6_use _ _ _).trans ?_ | refine (co_s_X6_start _ _ _).trans ?_ | refine co_setFM.trans ?_ | refine co_setAM.trans ?_)
theorem co_s_X6_read_bc {x : St} {a : Int32} {b : Int32} : co (s_X6_read_bc x a b) = co x := by
  unfold s_X6_read_bc
  repeat' (with_reducible first | rfl | refine co_if ?_ ?_ | refine co_ifp ?_ ?_ | refine co_s_X6_fail.trans ?_ | refine (co_s_X6_fail _).trans ?_ | refine (co_s_X6_fail _ _).trans ?_ | refine (co_s_X6_fail _ _ _).trans ?_ | refine co_setFM.trans ?_ | refine co_setAM.trans ?_)
theorem co_s_X6_read_bl {x : St} {i : Nat} {b : Int32} : co (s_X6_read_bl x i b) = co x := by
  unfold s_X6_read_bl
  repeat' (with_reducible first | rfl | refine co_if ?_ ?_ | refine co_ifp ?_ ?_ | refine co_s_X6_fail.trans ?_ | refine (co_s_X6_fail _).trans ?_ | refine (co_s_X6_fail _ _).trans ?_ | refine (co_s_X6_fail _ _ _).trans ?_ | refine co_setFM.trans ?_ | refine co_setAM.trans ?_)
theorem co_s_X6_write_ok {x : St} {i : Nat} {j : Nat} {d : Int32} : co (s_X6_write_ok x i j d) = co x := by
  unfold s_X6_write_ok
  repeat' (with_reducible first | rfl | refine co_if ?_ ?_ | refine co_ifp ?_ ?_ | refine co_s_X6_failed.trans ?_ | refine co_s_X6_use.trans ?_ | refine co_s_X6_start.trans ?_ | refine (co_s_X6_failed _).trans ?_ | refine (co_s_X6_use _).trans ?_ | refine (co_s_X6_start _).trans ?_ | refine (co_s_X6_failed _ _).trans ?_ | refine (co_s_X6_use _ _).trans ?_ | refine (co_s_X6_start _ _).trans ?_ | refine (co_s_X6_failed _ _ _).trans ?_ | refine (co_s_X6_use _ _ _).trans ?_ | refine (co_s_X6_start _ _ _).trans ?_ | refine co_setFM.trans ?_ | refine co_setAM.trans ?_)
theorem co_s_X6_write_bc {x : St} {a : Int32} {b : Int32} {d : Int32} : co (s_X6_write_bc x a b d) = co x := by
  unfold s_X6_write_bc
  repeat' (with_reducible first | rfl | refine co_if ?_ ?_ | refine co_ifp ?_ ?_ | refine co_s_X6_failed.trans ?_ | refine (co_s_X6_failed _).trans ?_ | refine (co_s_X6_failed _ _).trans ?_ | refine (co_s_X6_failed _ _ _).trans ?_ | refine co_setFM.trans ?_ | refine co_setAM.trans ?_)
theorem co_s_X6_write_bl {x : St} {i : Nat} {b : Int32} {d : Int32} : co (s_X6_write_bl x i b d) = co x := by
  unfold s_X6_write_bl
  repeat' (with_reducible first | rfl | refine co_if ?_ ?_ | refine co_ifp ?_ ?_ | refine co_s_X6_failed.trans ?_ | refine (co_s_X6_failed _).trans ?_ | refine (co_s_X6_failed _ _).trans ?_ | refine (co_s_X6_failed _ _ _).trans ?_ | refine co_setFM.trans ?_ | refine co_setAM.trans ?_)
theorem co_s_X6_evict_ok {x : St} {i : Nat} {j : Nat} : co (s_X6_evict_ok x i j) = co x := by
  unfold s_X6_evict_ok
  repeat' (with_reducible first | rfl | refine co_if ?_ ?_ | refine co_ifp ?_ ?_ | refine co_s_X6_fail.trans ?_ | refine co_s_X6_remove.trans ?_ | refine (co_s_X6_fail _).trans ?_ | refine (co_s_X6_remove _).trans ?_ | refine (co_s_X6_fail _ _).trans ?_ | refine (co_s_X6_remove _ _).trans ?_ | refine (co_s_X6_fail _ _ _).trans ?_ | refine (co_s_X6_remove _ _ _).trans ?_ | refine co_setFM.trans ?_ | refine co_setAM.trans ?_)
theorem co_s_X6_evict_bc {x : St} {a : Int32} {b : Int32} : co (s_X6_evict_bc x a b) = co x := by
  unfold s_X6_evict_bc
  repeat' (with_reducible first | rfl | refine co_if ?_ ?_ | refine co_ifp ?_ ?_ | refine co_s_X6_fail.trans ?_ | refine (co_s_X6_fail _).trans ?_ | refine (co_s_X6_fail _ _).trans ?_ | refine (co_s_X6_fail _ _ _).trans ?_ | refine co_setFM.trans ?_ | refine co_setAM.trans ?_)
theorem co_s_X6_evict_bl {x : St} {i : Nat} {b : Int32} : co (s_X6_evict_bl x i b) = co x := by
  unfold s_X6_evict_bl
  repeat' (with_reducible first | rfl | refine co_if ?_ ?_ | refine co_ifp ?_ ?_ | refine co_s_X6_fail.trans ?_ | refine (co_s_X6_fail _).trans ?_ | refine (co_s_X6_fail _ _).trans ?_ | refine (co_s_X6_fail _ _ _).trans ?_ | refine co_setFM.trans ?_ | refine co_setAM.trans ?_)
theorem co_s_X6_state_ok {x : St} {i : Nat} {j : Nat} : co (s_X6_state_ok x i j) = co x := by
  unfold s_X6_state_ok
  repeat' (with_reducible first | rfl | refine co_if ?_ ?_ | refine co_ifp ?_ ?_ | refine co_setFM.trans ?_ | refine co_setAM.trans ?_)
theorem co_s_X6_state_bc {x : St} {a : Int32} {b : Int32} : co (s_X6_state_bc x a b) = co x := by
  unfold s_X6_state_bc
  repeat' (with_reducible first | rfl | refine co_if ?_ ?_ | refine co_ifp ?_ ?_ | refine co_s_X6_fail.trans ?_ | refine (co_s_X6_fail _).trans ?_ | refine (co_s_X6_fail _ _).trans ?_ | refine (co_s_X6_fail _ _ _).trans ?_ | refine co_setFM.trans ?_ | refine co_setAM.trans ?_)
theorem co_s_X6_state_bl {x : St} {i : Nat} {b : Int32} : co (s_X6_state_bl x i b) = co x := by
  unfold s_X6_state_bl
  repeat' (with_reducible first | rfl | refine co_if ?_ ?_ | refine co_ifp ?_ ?_ | refine co_s_X6_fail.trans ?_ | refine (co_s_X6_fail _).trans ?_ | refine (co_s_X6_fail _ _).trans ?_ | refine (co_s_X6_fail _ _ _).trans ?_ | refine co_setFM.trans ?_ | refine co_setAM.trans ?_)
theorem co_s_X6_value_ok {x : St} {i : Nat} {j : Nat} : co (s_X6_value_ok x i j) = co x := by
  unfold s_X6_value_ok
  repeat' (with_reducible first | rfl | refine co_if ?_ ?_ | refine co_ifp ?_ ?_ | refine co_s_X6_fail.trans ?_ | refine (co_s_X6_fail _).trans ?_ | refine (co_s_X6_fail _ _).trans ?_ | refine (co_s_X6_fail _ _ _).trans ?_ | refine co_setFM.trans ?_ | refine co_setAM.trans ?_)
theorem co_s_X6_value_bc {x : St} {a : Int32} {b : Int32} : co (s_X6_value_bc x a b) = co x := by
  unfold s_X6_value_bc
  repeat' (with_reducible first | rfl | refine co_if ?_ ?_ | refine co_ifp ?_ ?_ | refine co_s_X6_fail.trans ?_ | refine (co_s_X6_fail _).trans ?_ | refine (co_s_X6_fail _ _).trans ?_ | refine (co_s_X6_fail _ _ _).trans ?_ | refine co_setFM.trans ?_ | refine co_setAM.trans ?_)
theorem co_s_X6_value_bl {x : St} {i : Nat} {b : Int32} : co (s_X6_value_bl x i b) = co x := by
  unfold s_X6_value_bl
  repeat' (with_reducible first | rfl | refine co_if ?_ ?_ | refine co_ifp ?_ ?_ | refine co_s_X6_fail.trans ?_ | refine (co_s_X6_fail _).trans ?_ | refine (co_s_X6_fail _ _).trans ?_ | refine (co_s_X6_fail _ _ _).trans ?_ | refine co_setFM.trans ?_ | refine co_setAM.trans ?_)
theorem co_s_X6_victimValue_ok {x : St} {i : Nat} {j : Nat} : co (s_X6_victimValue_ok x i j) = co x := by
  unfold s_X6_victimValue_ok
  repeat' (with_reducible first | rfl | refine co_if ?_ ?_ | refine co_ifp ?_ ?_ | refine co_setFM.trans ?_ | refine co_setAM.trans ?_)
theorem co_s_X6_victimValue_bc {x : St} {a : Int32} {b : Int32} : co (s_X6_victimValue_bc x a b) = co x := by
  unfold s_X6_victimValue_bc
  repeat' (with_reducible first | rfl | refine co_if ?_ ?_ | refine co_ifp ?_ ?_ | refine co_s_X6_fail.trans ?_ | refine (co_s_X6_fail _).trans ?_ | refine (co_s_X6_fail _ _).trans ?_ | refine (co_s_X6_fail _ _ _).trans ?_ | refine co_setFM.trans ?_ | refine co_setAM.trans ?_)
theorem co_s_X6_victimValue_bl {x : St} {i : Nat} {b : Int32} : co (s_X6_victimValue_bl x i b) = co x := by
  unfold s_X6_victimValue_bl
  repeat' (with_reducible first | rfl | refine co_if ?_ ?_ | refine co_ifp ?_ ?_ | refine co_s_X6_fail.trans ?_ | refine (co_s_X6_fail _).trans ?_ | refine (co_s_X6_fail _ _).trans ?_ | refine (co_s_X6_fail _ _ _).trans ?_ | refine co_setFM.trans ?_ | refine co_setAM.trans ?_)
theorem co_s_X6_openLine_ok {x : St} {i : Nat} : co (s_X6_openLine_ok x i) = co x := by
  unfold s_X6_openLine_ok
  repeat' (with_reducible first | rfl | refine co_if ?_ ?_ | refine co_ifp ?_ ?_ | refine co_setFM.trans ?_ | refine co_setAM.trans ?_)
theorem co_s_X6_openLine_bc {x : St} {a : Int32} : co (s_X6_openLine_bc x a) = co x := by
  unfold s_X6_openLine_bc
  repeat' (with_reducible first | rfl | refine co_if ?_ ?_ | refine co_ifp ?_ ?_ | refine co_s_X6_fail.trans ?_ | refine (co_s_X6_fail _).trans ?_ | refine (co_s_X6_fail _ _).trans ?_ | refine (co_s_X6_fail _ _ _).trans ?_ | refine co_setFM.trans ?_ | refine co_setAM.trans ?_)
theorem co_s_X6_latestRead_ok {x : St} {i : Nat} : co (s_X6_latestRead_ok x i) = co x := by
  unfold s_X6_latestRead_ok
  repeat' (with_reducible first | rfl | refine co_if ?_ ?_ | refine co_ifp ?_ ?_ | refine co_setFM.trans ?_ | refine co_setAM.trans ?_)
theorem co_s_X6_latestRead_bc {x : St} {a : Int32} : co (s_X6_latestRead_bc x a) = co x := by
  unfold s_X6_latestRead_bc
  repeat' (with_reducible first | rfl | refine co_if ?_ ?_ | refine co_ifp ?_ ?_ | refine co_s_X6_fail.trans ?_ | refine (co_s_X6_fail _).trans ?_ | refine (co_s_X6_fail _ _).trans ?_ | refine (co_s_X6_fail _ _ _).trans ?_ | refine co_setFM.trans ?_ | refine co_setAM.trans ?_)
theorem co_s_X6_hits_ok {x : St} {i : Nat} : co (s_X6_hits_ok x i) = co x := by
  unfold s_X6_hits_ok
  repeat' (with_reducible first | rfl | refine co_if ?_ ?_ | refine co_ifp ?_ ?_ | refine co_setFM.trans ?_ | refine co_setAM.trans ?_)
theorem co_s_X6_hits_bc {x : St} {a : Int32} : co (s_X6_hits_bc x a) = co x := by
  unfold s_X6_hits_bc
  repeat' (with_reducible first | rfl | refine co_if ?_ ?_ | refine co_ifp ?_ ?_ | refine co_s_X6_fail.trans ?_ | refine (co_s_X6_fail _).trans ?_ | refine (co_s_X6_fail _ _).trans ?_ | refine (co_s_X6_fail _ _ _).trans ?_ | refine co_setFM.trans ?_ | refine co_setAM.trans ?_)
theorem co_s_X6_misses_ok {x : St} {i : Nat} : co (s_X6_misses_ok x i) = co x := by
  unfold s_X6_misses_ok
  repeat' (with_reducible first | rfl | refine co_if ?_ ?_ | refine co_ifp ?_ ?_ | refine co_setFM.trans ?_ | refine co_setAM.trans ?_)
theorem co_s_X6_misses_bc {x : St} {a : Int32} : co (s_X6_misses_bc x a) = co x := by
  unfold s_X6_misses_bc
  repeat' (with_reducible first | rfl | refine co_if ?_ ?_ | refine co_ifp ?_ ?_ | refine co_s_X6_fail.trans ?_ | refine (co_s_X6_fail _).trans ?_ | refine (co_s_X6_fail _ _).trans ?_ | refine (co_s_X6_fail _ _ _).trans ?_ | refine co_setFM.trans ?_ | refine co_setAM.trans ?_)
theorem co_s_X6_owner_ok {x : St} {i : Nat} : co (s_X6_owner_ok x i) = co x := by
  unfold s_X6_owner_ok
  repeat' (with_reducible first | rfl | refine co_if ?_ ?_ | refine co_ifp ?_ ?_ | refine co_setFM.trans ?_ | refine co_setAM.trans ?_)
theorem co_s_X6_owner_bl {x : St} {a : Int32} : co (s_X6_owner_bl x a) = co x := by
  unfold s_X6_owner_bl
  repeat' (with_reducible first | rfl | refine co_if ?_ ?_ | refine co_ifp ?_ ?_ | refine co_s_X6_fail.trans ?_ | refine (co_s_X6_fail _).trans ?_ | refine (co_s_X6_fail _ _).trans ?_ | refine (co_s_X6_fail _ _ _).trans ?_ | refine co_setFM.trans ?_ | refine co_setAM.trans ?_)
theorem co_s_X6_sharers_ok {x : St} {i : Nat} : co (s_X6_sharers_ok x i) = co x := by
  unfold s_X6_sharers_ok
  repeat' (with_reducible first | rfl | refine co_if ?_ ?_ | refine co_ifp ?_ ?_ | refine co_setFM.trans ?_ | refine co_setAM.trans ?_)
theorem co_s_X6_sharers_bl {x : St} {a : Int32} : co (s_X6_sharers_bl x a) = co x := by
  unfold s_X6_sharers_bl
  repeat' (with_reducible first | rfl | refine co_if ?_ ?_ | refine co_ifp ?_ ?_ | refine co_s_X6_fail.trans ?_ | refine (co_s_X6_fail _).trans ?_ | refine (co_s_X6_fail _ _).trans ?_ | refine (co_s_X6_fail _ _ _).trans ?_ | refine co_setFM.trans ?_ | refine co_setAM.trans ?_)
theorem co_s_X6_queued_ok {x : St} {i : Nat} : co (s_X6_queued_ok x i) = co x := by
  unfold s_X6_queued_ok
  repeat' (with_reducible first | rfl | refine co_if ?_ ?_ | refine co_ifp ?_ ?_ | refine co_setFM.trans ?_ | refine co_setAM.trans ?_)
theorem co_s_X6_queued_bl {x : St} {a : Int32} : co (s_X6_queued_bl x a) = co x := by
  unfold s_X6_queued_bl
  repeat' (with_reducible first | rfl | refine co_if ?_ ?_ | refine co_ifp ?_ ?_ | refine co_s_X6_fail.trans ?_ | refine (co_s_X6_fail _).trans ?_ | refine (co_s_X6_fail _ _).trans ?_ | refine (co_s_X6_fail _ _ _).trans ?_ | refine co_setFM.trans ?_ | refine co_setAM.trans ?_)
theorem co_s_X6_memory_ok {x : St} {i : Nat} : co (s_X6_memory_ok x i) = co x := by
  unfold s_X6_memory_ok
  repeat' (with_reducible first | rfl | refine co_if ?_ ?_ | refine co_ifp ?_ ?_ | refine co_setFM.trans ?_ | refine co_setAM.trans ?_)
theorem co_s_X6_memory_bl {x : St} {a : Int32} : co (s_X6_memory_bl x a) = co x := by
  unfold s_X6_memory_bl
  repeat' (with_reducible first | rfl | refine co_if ?_ ?_ | refine co_ifp ?_ ?_ | refine co_s_X6_fail.trans ?_ | refine (co_s_X6_fail _).trans ?_ | refine (co_s_X6_fail _ _).trans ?_ | refine (co_s_X6_fail _ _ _).trans ?_ | refine co_setFM.trans ?_ | refine co_setAM.trans ?_)
theorem co_s_X6_isBusy_ok {x : St} {i : Nat} : co (s_X6_isBusy_ok x i) = co x := by
  unfold s_X6_isBusy_ok
  repeat' (with_reducible first | rfl | refine co_if ?_ ?_ | refine co_ifp ?_ ?_ | refine co_setFM.trans ?_ | refine co_setAM.trans ?_)
theorem co_s_X6_isBusy_bl {x : St} {a : Int32} : co (s_X6_isBusy_bl x a) = co x := by
  unfold s_X6_isBusy_bl
  repeat' (with_reducible first | rfl | refine co_if ?_ ?_ | refine co_ifp ?_ ?_ | refine co_s_X6_failed.trans ?_ | refine (co_s_X6_failed _).trans ?_ | refine (co_s_X6_failed _ _).trans ?_ | refine (co_s_X6_failed _ _ _).trans ?_ | refine co_setFM.trans ?_ | refine co_setAM.trans ?_)
theorem co_s_X6_lineAt_ok {x : St} {i : Nat} {b : Int32} : co (s_X6_lineAt_ok x i b) = co x := by
  unfold s_X6_lineAt_ok
  repeat' (with_reducible first | rfl | refine co_if ?_ ?_ | refine co_ifp ?_ ?_ | refine co_s_X6_fail.trans ?_ | refine (co_s_X6_fail _).trans ?_ | refine (co_s_X6_fail _ _).trans ?_ | refine (co_s_X6_fail _ _ _).trans ?_ | refine co_setFM.trans ?_ | refine co_setAM.trans ?_)
theorem co_s_X6_lineAt_bc {x : St} {a : Int32} {b : Int32} : co (s_X6_lineAt_bc x a b) = co x := by
  unfold s_X6_lineAt_bc
  repeat' (with_reducible first | rfl | refine co_if ?_ ?_ | refine co_ifp ?_ ?_ | refine co_s_X6_fail.trans ?_ | refine (co_s_X6_fail _).trans ?_ | refine (co_s_X6_fail _ _).trans ?_ | refine (co_s_X6_fail _ _ _).trans ?_ | refine co_setFM.trans ?_ | refine co_setAM.trans ?_)
theorem co_s_X6_messageCount {x : St}  : co (s_X6_messageCount x ) = co x := by
  unfold s_X6_messageCount
  repeat' (with_reducible first | rfl | refine co_if ?_ ?_ | refine co_ifp ?_ ?_ | refine co_setFM.trans ?_ | refine co_setAM.trans ?_)
theorem co_s_X6_writebacks {x : St}  : co (s_X6_writebacks x ) = co x := by
  unfold s_X6_writebacks
  repeat' (with_reducible first | rfl | refine co_if ?_ ?_ | refine co_ifp ?_ ?_ | refine co_setFM.trans ?_ | refine co_setAM.trans ?_)
theorem co_s_X6_lateWritebacks {x : St}  : co (s_X6_lateWritebacks x ) = co x := by
  unfold s_X6_lateWritebacks
  repeat' (with_reducible first | rfl | refine co_if ?_ ?_ | refine co_ifp ?_ ?_ | refine co_setFM.trans ?_ | refine co_setAM.trans ?_)
theorem co_s_X6_part_ok {x : St} {k : Nat} {n : Nat} : co (s_X6_part_ok x k n) = co x := by
  unfold s_X6_part_ok
  repeat' (with_reducible first | rfl | refine co_if ?_ ?_ | refine co_ifp ?_ ?_ | refine co_setFM.trans ?_ | refine co_setAM.trans ?_)
theorem co_s_X6_part_no {x : St} {a : Int32} {n : Nat} : co (s_X6_part_no x a n) = co x := by
  unfold s_X6_part_no
  repeat' (with_reducible first | rfl | refine co_if ?_ ?_ | refine co_ifp ?_ ?_ | refine co_s_X6_fail.trans ?_ | refine (co_s_X6_fail _).trans ?_ | refine (co_s_X6_fail _ _).trans ?_ | refine (co_s_X6_fail _ _ _).trans ?_ | refine co_setFM.trans ?_ | refine co_setAM.trans ?_)
theorem co_s_X6_messageKind_ok {x : St} {k : Nat} : co (s_X6_messageKind_ok x k) = co x := by
  unfold s_X6_messageKind_ok
  repeat' (with_reducible first | rfl | refine co_if ?_ ?_ | refine co_ifp ?_ ?_ | refine co_s_X6_part_ok.trans ?_ | refine (co_s_X6_part_ok _).trans ?_ | refine (co_s_X6_part_ok _ _).trans ?_ | refine (co_s_X6_part_ok _ _ _).trans ?_ | refine co_setFM.trans ?_ | refine co_setAM.trans ?_)
theorem co_s_X6_messageKind_no {x : St} {a : Int32} : co (s_X6_messageKind_no x a) = co x := by
  unfold s_X6_messageKind_no
  repeat' (with_reducible first | rfl | refine co_if ?_ ?_ | refine co_ifp ?_ ?_ | refine co_s_X6_part_no.trans ?_ | refine (co_s_X6_part_no _).trans ?_ | refine (co_s_X6_part_no _ _).trans ?_ | refine (co_s_X6_part_no _ _ _).trans ?_ | refine co_setFM.trans ?_ | refine co_setAM.trans ?_)
theorem co_s_X6_messageLine_ok {x : St} {k : Nat} : co (s_X6_messageLine_ok x k) = co x := by
  unfold s_X6_messageLine_ok
  repeat' (with_reducible first | rfl | refine co_if ?_ ?_ | refine co_ifp ?_ ?_ | refine co_s_X6_part_ok.trans ?_ | refine (co_s_X6_part_ok _).trans ?_ | refine (co_s_X6_part_ok _ _).trans ?_ | refine (co_s_X6_part_ok _ _ _).trans ?_ | refine co_setFM.trans ?_ | refine co_setAM.trans ?_)
theorem co_s_X6_messageLine_no {x : St} {a : Int32} : co (s_X6_messageLine_no x a) = co x := by
  unfold s_X6_messageLine_no
  repeat' (with_reducible first | rfl | refine co_if ?_ ?_ | refine co_ifp ?_ ?_ | refine co_s_X6_part_no.trans ?_ | refine (co_s_X6_part_no _).trans ?_ | refine (co_s_X6_part_no _ _).trans ?_ | refine (co_s_X6_part_no _ _ _).trans ?_ | refine co_setFM.trans ?_ | refine co_setAM.trans ?_)
theorem co_s_X6_messageFrom_ok {x : St} {k : Nat} : co (s_X6_messageFrom_ok x k) = co x := by
  unfold s_X6_messageFrom_ok
  repeat' (with_reducible first | rfl | refine co_if ?_ ?_ | refine co_ifp ?_ ?_ | refine co_s_X6_part_ok.trans ?_ | refine (co_s_X6_part_ok _).trans ?_ | refine (co_s_X6_part_ok _ _).trans ?_ | refine (co_s_X6_part_ok _ _ _).trans ?_ | refine co_setFM.trans ?_ | refine co_setAM.trans ?_)
theorem co_s_X6_messageFrom_no {x : St} {a : Int32} : co (s_X6_messageFrom_no x a) = co x := by
  unfold s_X6_messageFrom_no
  repeat' (with_reducible first | rfl | refine co_if ?_ ?_ | refine co_ifp ?_ ?_ | refine co_s_X6_part_no.trans ?_ | refine (co_s_X6_part_no _).trans ?_ | refine (co_s_X6_part_no _ _).trans ?_ | refine (co_s_X6_part_no _ _ _).trans ?_ | refine co_setFM.trans ?_ | refine co_setAM.trans ?_)
theorem co_s_X6_messageTo_ok {x : St} {k : Nat} : co (s_X6_messageTo_ok x k) = co x := by
  unfold s_X6_messageTo_ok
  repeat' (with_reducible first | rfl | refine co_if ?_ ?_ | refine co_ifp ?_ ?_ | refine co_s_X6_part_ok.trans ?_ | refine (co_s_X6_part_ok _).trans ?_ | refine (co_s_X6_part_ok _ _).trans ?_ | refine (co_s_X6_part_ok _ _ _).trans ?_ | refine co_setFM.trans ?_ | refine co_setAM.trans ?_)
theorem co_s_X6_messageTo_no {x : St} {a : Int32} : co (s_X6_messageTo_no x a) = co x := by
  unfold s_X6_messageTo_no
  repeat' (with_reducible first | rfl | refine co_if ?_ ?_ | refine co_ifp ?_ ?_ | refine co_s_X6_part_no.trans ?_ | refine (co_s_X6_part_no _).trans ?_ | refine (co_s_X6_part_no _ _).trans ?_ | refine (co_s_X6_part_no _ _ _).trans ?_ | refine co_setFM.trans ?_ | refine co_setAM.trans ?_)
theorem co_s_X6_isInOrder_ok {x : St} {j : Nat} : co (s_X6_isInOrder_ok x j) = co x := by
  unfold s_X6_isInOrder_ok
  repeat' (with_reducible first | rfl | refine co_if ?_ ?_ | refine co_ifp ?_ ?_ | refine co_setFM.trans ?_ | refine co_setAM.trans ?_)
theorem co_s_X6_isInOrder_bl {x : St} {a : Int32} : co (s_X6_isInOrder_bl x a) = co x := by
  unfold s_X6_isInOrder_bl
  repeat' (with_reducible first | rfl | refine co_if ?_ ?_ | refine co_ifp ?_ ?_ | refine co_s_X6_failed.trans ?_ | refine (co_s_X6_failed _).trans ?_ | refine (co_s_X6_failed _ _).trans ?_ | refine (co_s_X6_failed _ _ _).trans ?_ | refine co_setFM.trans ?_ | refine co_setAM.trans ?_)
theorem co_s_X6_digest {x : St}  : co (s_X6_digest x ) = co x := by
  unfold s_X6_digest
  repeat' (with_reducible first | rfl | refine co_if ?_ ?_ | refine co_ifp ?_ ?_ | refine co_setFM.trans ?_ | refine co_setAM.trans ?_)
theorem co_s_X6_complete {x : St} {i : Nat} : co (s_X6_complete x i) = co x := by
  unfold s_X6_complete
  repeat' (with_reducible first | rfl | refine co_if ?_ ?_ | refine co_ifp ?_ ?_ | refine co_s_X6_use.trans ?_ | refine co_s_X6_send.trans ?_ | refine (co_s_X6_use _).trans ?_ | refine (co_s_X6_send _).trans ?_ | refine (co_s_X6_use _ _).trans ?_ | refine (co_s_X6_send _ _).trans ?_ | refine (co_s_X6_use _ _ _).trans ?_ | refine (co_s_X6_send _ _ _).trans ?_ | refine co_setFM.trans ?_ | refine co_setAM.trans ?_)
theorem co_s_X6_receive {x : St} {i : Nat} {j : Nat} : co (s_X6_receive x i j) = co x := by
  unfold s_X6_receive
  repeat' (with_reducible first | rfl | refine co_if ?_ ?_ | refine co_ifp ?_ ?_ | refine co_s_X6_send.trans ?_ | refine co_s_X6_complete.trans ?_ | refine (co_s_X6_send _).trans ?_ | refine (co_s_X6_complete _).trans ?_ | refine (co_s_X6_send _ _).trans ?_ | refine (co_s_X6_complete _ _).trans ?_ | refine (co_s_X6_send _ _ _).trans ?_ | refine (co_s_X6_complete _ _ _).trans ?_ | refine co_setFM.trans ?_ | refine co_setAM.trans ?_)
theorem co_lp_X6_enqueue_17 {x : St} {j : Nat} {b17_0 : St} : ∀ (n : Nat), co (lp_X6_enqueue_17 x j b17_0 n) = co b17_0 := by
  intro n
  induction n with
  | zero =>
    skip
    unfold lp_X6_enqueue_17
    repeat' (with_reducible first | rfl | refine co_if ?_ ?_ | refine co_ifp ?_ ?_ | refine co_setFM.trans ?_ | refine co_setAM.trans ?_)
  | succ n ih =>
    skip
    unfold lp_X6_enqueue_17
    repeat' (with_reducible first | rfl | exact (ih) | refine (ih).trans ?_ | refine co_if ?_ ?_ | refine co_ifp ?_ ?_ | refine co_setFM.trans ?_ | refine co_setAM.trans ?_)
theorem co_s_X6_enqueue {x : St} {j : Nat} : co (s_X6_enqueue x j) = co x := by
  unfold s_X6_enqueue
  repeat' (with_reducible first | rfl | refine co_if ?_ ?_ | refine co_ifp ?_ ?_ | refine co_lp_X6_enqueue_17.trans ?_ | refine (co_lp_X6_enqueue_17 _).trans ?_ | refine (co_lp_X6_enqueue_17 _ _).trans ?_ | refine (co_lp_X6_enqueue_17 _ _ _).trans ?_ | refine co_setFM.trans ?_ | refine co_setAM.trans ?_)
theorem co_lp_X6_process_163 {x : St} {j : Nat} {a : Int32} {b163_0 : Nat} {b163_1 : St} : ∀ (n : Nat), co (lp_X6_process_163 x j a b163_0 b163_1 n).2 = co b163_1 := by
  intro n
  induction n with
  | zero =>
    skip
    unfold lp_X6_process_163
    repeat' (with_reducible first | rfl | refine co_if ?_ ?_ | refine co_ifp ?_ ?_ | refine co_s_X6_send.trans ?_ | refine (co_s_X6_send _).trans ?_ | refine (co_s_X6_send _ _).trans ?_ | refine (co_s_X6_send _ _ _).trans ?_ | refine co_setFM.trans ?_ | refine co_setAM.trans ?_)
  | succ n ih =>
    skip
    unfold lp_X6_process_163
    repeat' (with_reducible first | rfl | exact (ih) | refine (ih).trans ?_ | refine co_if ?_ ?_ | refine co_ifp ?_ ?_ | refine co_s_X6_send.trans ?_ | refine (co_s_X6_send _).trans ?_ | refine (co_s_X6_send _ _).trans ?_ | refine (co_s_X6_send _ _ _).trans ?_ | refine co_setFM.trans ?_ | refine co_setAM.trans ?_)
theorem co_s_X6_process {x : St} {j : Nat} {a : Int32} : co (s_X6_process x j a) = co x := by
  unfold s_X6_process
  repeat' (with_reducible first | rfl | refine co_if ?_ ?_ | refine co_ifp ?_ ?_ | refine co_s_X6_send.trans ?_ | refine co_lp_X6_process_163.trans ?_ | refine (co_s_X6_send _).trans ?_ | refine (co_lp_X6_process_163 _).trans ?_ | refine (co_s_X6_send _ _).trans ?_ | refine (co_lp_X6_process_163 _ _).trans ?_ | refine (co_s_X6_send _ _ _).trans ?_ | refine (co_lp_X6_process_163 _ _ _).trans ?_ | refine co_setFM.trans ?_ | refine co_setAM.trans ?_)
theorem co_lp_X6_free_73 {x : St} {j : Nat} {a15 : Nat} {y : St} {b73_0 : St} : ∀ (n : Nat), co (lp_X6_free_73 x j a15 y b73_0 n) = co b73_0 := by
  intro n
  induction n with
  | zero =>
    skip
    unfold lp_X6_free_73
    repeat' (with_reducible first | rfl | refine co_if ?_ ?_ | refine co_ifp ?_ ?_ | refine co_setFM.trans ?_ | refine co_setAM.trans ?_)
  | succ n ih =>
    skip
    unfold lp_X6_free_73
    repeat' (with_reducible first | rfl | exact (ih) | refine (ih).trans ?_ | refine co_if ?_ ?_ | refine co_ifp ?_ ?_ | refine co_setFM.trans ?_ | refine co_setAM.trans ?_)
theorem co_lp_X6_free_35 {x : St} {j : Nat} {a15 : Nat} {y : St} {b35_0 : St} : ∀ (n : Nat), co (lp_X6_free_35 x j a15 y b35_0 n) = co b35_0 := by
  intro n
  induction n with
  | zero =>
    skip
    unfold lp_X6_free_35
    repeat' (with_reducible first | rfl | refine co_if ?_ ?_ | refine co_ifp ?_ ?_ | refine co_setFM.trans ?_ | refine co_setAM.trans ?_)
  | succ n ih =>
    skip
    unfold lp_X6_free_35
    repeat' (with_reducible first | rfl | exact (ih) | refine (ih).trans ?_ | refine co_if ?_ ?_ | refine co_ifp ?_ ?_ | refine co_setFM.trans ?_ | refine co_setAM.trans ?_)
theorem co_lq_X6_free_15 {x : St} {j : Nat} : ∀ (n : Nat) (u1 : Nat) (u2 : St), co (lq_X6_free_15 x j n u1 u2) = co u2 := by
  intro n
  induction n with
  | zero =>
    intro u1 u2
    unfold lq_X6_free_15
    repeat' (with_reducible first | rfl | refine co_if ?_ ?_ | refine co_ifp ?_ ?_ | refine co_s_X6_process.trans ?_ | refine co_lp_X6_free_73.trans ?_ | refine co_lp_X6_free_35.trans ?_ | refine (co_s_X6_process _).trans ?_ | refine (co_lp_X6_free_73 _).trans ?_ | refine (co_lp_X6_free_35 _).trans ?_ | refine (co_s_X6_process _ _).trans ?_ | refine (co_lp_X6_free_73 _ _).trans ?_ | refine (co_lp_X6_free_35 _ _).trans ?_ | refine (co_s_X6_process _ _ _).trans ?_ | refine (co_lp_X6_free_73 _ _ _).trans ?_ | refine (co_lp_X6_free_35 _ _ _).trans ?_ | refine co_setFM.trans ?_ | refine co_setAM.trans ?_)
  | succ n ih =>
    intro u1 u2
    unfold lq_X6_free_15
    repeat' (with_reducible first | rfl | exact (ih _ _) | refine (ih _ _).trans ?_ | refine co_if ?_ ?_ | refine co_ifp ?_ ?_ | refine co_s_X6_process.trans ?_ | refine co_lp_X6_free_73.trans ?_ | refine co_lp_X6_free_35.trans ?_ | refine (co_s_X6_process _).trans ?_ | refine (co_lp_X6_free_73 _).trans ?_ | refine (co_lp_X6_free_35 _).trans ?_ | refine (co_s_X6_process _ _).trans ?_ | refine (co_lp_X6_free_73 _ _).trans ?_ | refine (co_lp_X6_free_35 _ _).trans ?_ | refine (co_s_X6_process _ _ _).trans ?_ | refine (co_lp_X6_free_73 _ _ _).trans ?_ | refine (co_lp_X6_free_35 _ _ _).trans ?_ | refine co_setFM.trans ?_ | refine co_setAM.trans ?_)
theorem co_s_X6_free {x : St} {j : Nat} : co (s_X6_free x j) = co x := by
  unfold s_X6_free
  repeat' (with_reducible first | rfl | refine co_if ?_ ?_ | refine co_ifp ?_ ?_ | refine co_lq_X6_free_15.trans ?_ | refine (co_lq_X6_free_15 _).trans ?_ | refine (co_lq_X6_free_15 _ _).trans ?_ | refine (co_lq_X6_free_15 _ _ _).trans ?_ | refine co_setFM.trans ?_ | refine co_setAM.trans ?_)
theorem co_lp_X6_take_46 {x : St} {k : Nat} {b46_0 : St} : ∀ (n : Nat), co (lp_X6_take_46 x k b46_0 n) = co b46_0 := by
  intro n
  induction n with
  | zero =>
    skip
    unfold lp_X6_take_46
    repeat' (with_reducible first | rfl | refine co_if ?_ ?_ | refine co_ifp ?_ ?_ | refine co_setFM.trans ?_ | refine co_setAM.trans ?_)
  | succ n ih =>
    skip
    unfold lp_X6_take_46
    repeat' (with_reducible first | rfl | exact (ih) | refine (ih).trans ?_ | refine co_if ?_ ?_ | refine co_ifp ?_ ?_ | refine co_setFM.trans ?_ | refine co_setAM.trans ?_)
theorem co_lp_X6_take_2 {x : St} {k : Nat} {b2_0 : St} : ∀ (n : Nat), co (lp_X6_take_2 x k b2_0 n) = co b2_0 := by
  intro n
  induction n with
  | zero =>
    skip
    unfold lp_X6_take_2
    repeat' (with_reducible first | rfl | refine co_if ?_ ?_ | refine co_ifp ?_ ?_ | refine co_setFM.trans ?_ | refine co_setAM.trans ?_)
  | succ n ih =>
    skip
    unfold lp_X6_take_2
    repeat' (with_reducible first | rfl | exact (ih) | refine (ih).trans ?_ | refine co_if ?_ ?_ | refine co_ifp ?_ ?_ | refine co_setFM.trans ?_ | refine co_setAM.trans ?_)
theorem co_s_X6_take {x : St} {k : Nat} : co (s_X6_take x k) = co x := by
  unfold s_X6_take
  repeat' (with_reducible first | rfl | refine co_if ?_ ?_ | refine co_ifp ?_ ?_ | refine co_s_X6_receive.trans ?_ | refine co_s_X6_enqueue.trans ?_ | refine co_s_X6_process.trans ?_ | refine co_s_X6_free.trans ?_ | refine co_lp_X6_take_46.trans ?_ | refine co_lp_X6_take_2.trans ?_ | refine (co_s_X6_receive _).trans ?_ | refine (co_s_X6_enqueue _).trans ?_ | refine (co_s_X6_process _).trans ?_ | refine (co_s_X6_free _).trans ?_ | refine (co_lp_X6_take_46 _).trans ?_ | refine (co_lp_X6_take_2 _).trans ?_ | refine (co_s_X6_receive _ _).trans ?_ | refine (co_s_X6_enqueue _ _).trans ?_ | refine (co_s_X6_process _ _).trans ?_ | refine (co_s_X6_free _ _).trans ?_ | refine (co_lp_X6_take_46 _ _).trans ?_ | refine (co_lp_X6_take_2 _ _).trans ?_ | refine (co_s_X6_receive _ _ _).trans ?_ | refine (co_s_X6_enqueue _ _ _).trans ?_ | refine (co_s_X6_process _ _ _).trans ?_ | refine (co_s_X6_free _ _ _).trans ?_ | refine (co_lp_X6_take_46 _ _ _).trans ?_ | refine (co_lp_X6_take_2 _ _ _).trans ?_ | refine co_setFM.trans ?_ | refine co_setAM.trans ?_)
theorem co_s_X6_deliver_ok {x : St} {k : Nat} : co (s_X6_deliver_ok x k) = co x := by
  unfold s_X6_deliver_ok
  repeat' (with_reducible first | rfl | refine co_if ?_ ?_ | refine co_ifp ?_ ?_ | refine co_s_X6_take.trans ?_ | refine (co_s_X6_take _).trans ?_ | refine (co_s_X6_take _ _).trans ?_ | refine (co_s_X6_take _ _ _).trans ?_ | refine co_setFM.trans ?_ | refine co_setAM.trans ?_)
theorem co_s_X6_deliver_no {x : St} {a : Int32} : co (s_X6_deliver_no x a) = co x := by
  unfold s_X6_deliver_no
  repeat' (with_reducible first | rfl | refine co_if ?_ ?_ | refine co_ifp ?_ ?_ | refine co_s_X6_fail.trans ?_ | refine (co_s_X6_fail _).trans ?_ | refine (co_s_X6_fail _ _).trans ?_ | refine (co_s_X6_fail _ _ _).trans ?_ | refine co_setFM.trans ?_ | refine co_setAM.trans ?_)
theorem co_lq_X6_settle_ok_24 {x : St} {k : Nat} : ∀ (n : Nat) (u1 : Nat) (u2 : St), co (lq_X6_settle_ok_24 x k n u1 u2).2 = co u2 := by
  intro n
  induction n with
  | zero =>
    intro u1 u2
    unfold lq_X6_settle_ok_24
    repeat' (with_reducible first | rfl | refine co_if ?_ ?_ | refine co_ifp ?_ ?_ | refine co_s_X6_take.trans ?_ | refine (co_s_X6_take _).trans ?_ | refine (co_s_X6_take _ _).trans ?_ | refine (co_s_X6_take _ _ _).trans ?_ | refine co_setFM.trans ?_ | refine co_setAM.trans ?_)
  | succ n ih =>
    intro u1 u2
    unfold lq_X6_settle_ok_24
    repeat' (with_reducible first | rfl | exact (ih _ _) | refine (ih _ _).trans ?_ | refine co_if ?_ ?_ | refine co_ifp ?_ ?_ | refine co_s_X6_take.trans ?_ | refine (co_s_X6_take _).trans ?_ | refine (co_s_X6_take _ _).trans ?_ | refine (co_s_X6_take _ _ _).trans ?_ | refine co_setFM.trans ?_ | refine co_setAM.trans ?_)
theorem co_s_X6_settle_ok {x : St} {k : Nat} : co (s_X6_settle_ok x k) = co x := by
  unfold s_X6_settle_ok
  repeat' (with_reducible first | rfl | refine co_if ?_ ?_ | refine co_ifp ?_ ?_ | refine co_lq_X6_settle_ok_24.trans ?_ | refine (co_lq_X6_settle_ok_24 _).trans ?_ | refine (co_lq_X6_settle_ok_24 _ _).trans ?_ | refine (co_lq_X6_settle_ok_24 _ _ _).trans ?_ | refine co_setFM.trans ?_ | refine co_setAM.trans ?_)
theorem co_s_X6_settle_no {x : St} {a : Int32} : co (s_X6_settle_no x a) = co x := by
  unfold s_X6_settle_no
  repeat' (with_reducible first | rfl | refine co_if ?_ ?_ | refine co_ifp ?_ ?_ | refine co_s_X6_fail.trans ?_ | refine (co_s_X6_fail _).trans ?_ | refine (co_s_X6_fail _ _).trans ?_ | refine (co_s_X6_fail _ _ _).trans ?_ | refine co_setFM.trans ?_ | refine co_setAM.trans ?_)
theorem co.eqs {x y : St} (h : co y = co x) : y.FL = x.FL ∧ y.LD = x.LD ∧ y.PL = x.PL ∧ y.PK = x.PK ∧ y.MF = x.MF ∧ y.BN = x.BN ∧ y.BR = x.BR :=
  ⟨show (co y).FL = (co x).FL by rw [h], show (co y).LD = (co x).LD by rw [h], show (co y).PL = (co x).PL by rw [h], show (co y).PK = (co x).PK by rw [h], show (co y).MF = (co x).MF by rw [h], show (co y).BN = (co x).BN by rw [h], show (co y).BR = (co x).BR by rw [h]⟩
/-- a step of the model, seen in the view -/
theorem VW.model {x y : St} {v : Vw} {p hs : List (Nat × M7)} (h : VW x v p hs) (h1 : co y = co x) : VW y (Vw.mk (er y) v.q) p hs := by
  obtain ⟨e1, e2, e3, e4, e5, e6, e7⟩ := co.eqs h1
  obtain ⟨-, L, h2, h3, h4, h5⟩ := h
  refine ⟨rfl, L, ?_, fun j hj => ?_, fun m hm => ?_, fun m hm => ?_⟩
  · unfold WFL at h2 ⊢
    rw [e1, e2, e3, e4, e6, e7]
    exact h2
  · rw [e5]
    exact h3 j hj
  · rw [e5]
    exact h4 m hm
  · rw [e3, e4, e5]
    exact h5 m hm
