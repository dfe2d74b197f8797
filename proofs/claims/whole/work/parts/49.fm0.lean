/-! ===== the model's inner methods leave its word on refusals alone ===== -/
def f0 (x : St) : Int32 := x.FM 0
theorem f0_setFM {x : St} {k : Nat} {w : Int32} (h : 0 ≠ k) : f0 (x.setFM k w) = f0 x := FM_ne h
theorem f0_setAM {x : St} {k : Nat} {f : Nat → Int32} : f0 (x.setAM k f) = f0 x := rfl
theorem f0_if {c : Prop} [Decidable c] {a b : St} {z : Int32} (h1 : f0 a = z) (h2 : f0 b = z) : f0 (if c then a else b) = z := by
  split <;> assumption
theorem f0_ifp {c : Prop} [Decidable c] {α : Type} {a b : α × St} {z : Int32} (h1 : f0 a.2 = z) (h2 : f0 b.2 = z) : f0 (if c then a else b).2 = z := by
  split <;> assumption
theorem f0_s_X6_use {x : St} {i : Nat} {j : Nat} : f0 (s_X6_use x i j) = f0 x := by
  unfold s_X6_use
  repeat' (with_reducible first | rfl | refine f0_if ?_ ?_ | refine f0_ifp ?_ ?_ | refine (f0_setFM (by decide)).trans ?_ | refine f0_setAM.trans ?_)
theorem f0_s_X6_send {x : St} {mk : Int32} {ml : Int32} {mf : Int32} {mt : Int32} {mv : Int32} {mn : Int32} {mr : Int32} : f0 (s_X6_send x mk ml mf mt mv mn mr) = f0 x := by
  unfold s_X6_send
  repeat' (with_reducible first | rfl | refine f0_if ?_ ?_ | refine f0_ifp ?_ ?_ | refine (f0_setFM (by decide)).trans ?_ | refine f0_setAM.trans ?_)
theorem f0_s_X6_complete {x : St} {i : Nat} : f0 (s_X6_complete x i) = f0 x := by
  unfold s_X6_complete
  repeat' (with_reducible first | rfl | refine f0_if ?_ ?_ | refine f0_ifp ?_ ?_ | refine f0_s_X6_use.trans ?_ | refine f0_s_X6_send.trans ?_ | refine (f0_s_X6_use _).trans ?_ | refine (f0_s_X6_send _).trans ?_ | refine (f0_s_X6_use _ _).trans ?_ | refine (f0_s_X6_send _ _).trans ?_ | refine (f0_s_X6_use _ _ _).trans ?_ | refine (f0_s_X6_send _ _ _).trans ?_ | refine (f0_setFM (by decide)).trans ?_ | refine f0_setAM.trans ?_)
theorem f0_s_X6_receive {x : St} {i : Nat} {j : Nat} : f0 (s_X6_receive x i j) = f0 x := by
  unfold s_X6_receive
  repeat' (with_reducible first | rfl | refine f0_if ?_ ?_ | refine f0_ifp ?_ ?_ | refine f0_s_X6_send.trans ?_ | refine f0_s_X6_complete.trans ?_ | refine (f0_s_X6_send _).trans ?_ | refine (f0_s_X6_complete _).trans ?_ | refine (f0_s_X6_send _ _).trans ?_ | refine (f0_s_X6_complete _ _).trans ?_ | refine (f0_s_X6_send _ _ _).trans ?_ | refine (f0_s_X6_complete _ _ _).trans ?_ | refine (f0_setFM (by decide)).trans ?_ | refine f0_setAM.trans ?_)
theorem f0_lp_X6_enqueue_17 {x : St} {j : Nat} {b17_0 : St} : ∀ (n : Nat), f0 (lp_X6_enqueue_17 x j b17_0 n) = f0 b17_0 := by
  intro n
  induction n with
  | zero =>
    skip
    unfold lp_X6_enqueue_17
    repeat' (with_reducible first | rfl | refine f0_if ?_ ?_ | refine f0_ifp ?_ ?_ | refine (f0_setFM (by decide)).trans ?_ | refine f0_setAM.trans ?_)
  | succ n ih =>
    skip
    unfold lp_X6_enqueue_17
    repeat' (with_reducible first | rfl | exact (ih) | refine (ih).trans ?_ | refine f0_if ?_ ?_ | refine f0_ifp ?_ ?_ | refine (f0_setFM (by decide)).trans ?_ | refine f0_setAM.trans ?_)
theorem f0_s_X6_enqueue {x : St} {j : Nat} : f0 (s_X6_enqueue x j) = f0 x := by
  unfold s_X6_enqueue
  repeat' (with_reducible first | rfl | refine f0_if ?_ ?_ | refine f0_ifp ?_ ?_ | refine f0_lp_X6_enqueue_17.trans ?_ | refine (f0_lp_X6_enqueue_17 _).trans ?_ | refine (f0_lp_X6_enqueue_17 _ _).trans ?_ | refine (f0_lp_X6_enqueue_17 _ _ _).trans ?_ | refine (f0_setFM (by decide)).trans ?_ | refine f0_setAM.trans ?_)
theorem f0_lp_X6_process_163 {x : St} {j : Nat} {a : Int32} {b163_0 : Nat} {b163_1 : St} : ∀ (n : Nat), f0 (lp_X6_process_163 x j a b163_0 b163_1 n).2 = f0 b163_1 := by
  intro n
  induction n with
  | zero =>
    skip
    unfold lp_X6_process_163
    repeat' (with_reducible first | rfl | refine f0_if ?_ ?_ | refine f0_ifp ?_ ?_ | refine f0_s_X6_send.trans ?_ | refine (f0_s_X6_send _).trans ?_ | refine (f0_s_X6_send _ _).trans ?_ | refine (f0_s_X6_send _ _ _).trans ?_ | refine (f0_setFM (by decide)).trans ?_ | refine f0_setAM.trans ?_)
  | succ n ih =>
    skip
    unfold lp_X6_process_163
    repeat' (with_reducible first | rfl | exact (ih) | refine (ih).trans ?_ | refine f0_if ?_ ?_ | refine f0_ifp ?_ ?_ | refine f0_s_X6_send.trans ?_ | refine (f0_s_X6_send _).trans ?_ | refine (f0_s_X6_send _ _).trans ?_ | refine (f0_s_X6_send _ _ _).trans ?_ | refine (f0_setFM (by decide)).trans ?_ | refine f0_setAM.trans ?_)
theorem f0_s_X6_process {x : St} {j : Nat} {a : Int32} : f0 (s_X6_process x j a) = f0 x := by
  unfold s_X6_process
  repeat' (with_reducible first | rfl | refine f0_if ?_ ?_ | refine f0_ifp ?_ ?_ | refine f0_s_X6_send.trans ?_ | refine f0_lp_X6_process_163.trans ?_ | refine (f0_s_X6_send _).trans ?_ | refine (f0_lp_X6_process_163 _).trans ?_ | refine (f0_s_X6_send _ _).trans ?_ | refine (f0_lp_X6_process_163 _ _).trans ?_ | refine (f0_s_X6_send _ _ _).trans ?_ | refine (f0_lp_X6_process_163 _ _ _).trans ?_ | refine (f0_setFM (by decide)).trans ?_ | refine f0_setAM.trans ?_)
theorem f0_lp_X6_free_73 {x : St} {j : Nat} {a15 : Nat} {y : St} {b73_0 : St} : ∀ (n : Nat), f0 (lp_X6_free_73 x j a15 y b73_0 n) = f0 b73_0 := by
  intro n
  induction n with
  | zero =>
    skip
    unfold lp_X6_free_73
    repeat' (with_reducible first | rfl | refine f0_if ?_ ?_ | refine f0_ifp ?_ ?_ | refine (f0_setFM (by decide)).trans ?_ | refine f0_setAM.trans ?_)
  | succ n ih =>
    skip
    unfold lp_X6_free_73
    repeat' (with_reducible first | rfl | exact (ih) | refine (ih).trans ?_ | refine f0_if ?_ ?_ | refine f0_ifp ?_ ?_ | refine (f0_setFM (by decide)).trans ?_ | refine f0_setAM.trans ?_)
theorem f0_lp_X6_free_35 {x : St} {j : Nat} {a15 : Nat} {y : St} {b35_0 : St} : ∀ (n : Nat), f0 (lp_X6_free_35 x j a15 y b35_0 n) = f0 b35_0 := by
  intro n
  induction n with
  | zero =>
    skip
    unfold lp_X6_free_35
    repeat' (with_reducible first | rfl | refine f0_if ?_ ?_ | refine f0_ifp ?_ ?_ | refine (f0_setFM (by decide)).trans ?_ | refine f0_setAM.trans ?_)
  | succ n ih =>
    skip
    unfold lp_X6_free_35
    repeat' (with_reducible first | rfl | exact (ih) | refine (ih).trans ?_ | refine f0_if ?_ ?_ | refine f0_ifp ?_ ?_ | refine (f0_setFM (by decide)).trans ?_ | refine f0_setAM.trans ?_)
theorem f0_lq_X6_free_15 {x : St} {j : Nat} : ∀ (n : Nat) (u1 : Nat) (u2 : St), f0 (lq_X6_free_15 x j n u1 u2) = f0 u2 := by
  intro n
  induction n with
  | zero =>
    intro u1 u2
    unfold lq_X6_free_15
    repeat' (with_reducible first | rfl | refine f0_if ?_ ?_ | refine f0_ifp ?_ ?_ | refine f0_s_X6_process.trans ?_ | refine f0_lp_X6_free_73.trans ?_ | refine f0_lp_X6_free_35.trans ?_ | refine (f0_s_X6_process _).trans ?_ | refine (f0_lp_X6_free_73 _).trans ?_ | refine (f0_lp_X6_free_35 _).trans ?_ | refine (f0_s_X6_process _ _).trans ?_ | refine (f0_lp_X6_free_73 _ _).trans ?_ | refine (f0_lp_X6_free_35 _ _).trans ?_ | refine (f0_s_X6_process _ _ _).trans ?_ | refine (f0_lp_X6_free_73 _ _ _).trans ?_ | refine (f0_lp_X6_free_35 _ _ _).trans ?_ | refine (f0_setFM (by decide)).trans ?_ | refine f0_setAM.trans ?_)
  | succ n ih =>
    intro u1 u2
    unfold lq_X6_free_15
    repeat' (with_reducible first | rfl | exact (ih _ _) | refine (ih _ _).trans ?_ | refine f0_if ?_ ?_ | refine f0_ifp ?_ ?_ | refine f0_s_X6_process.trans ?_ | refine f0_lp_X6_free_73.trans ?_ | refine f0_lp_X6_free_35.trans ?_ | refine (f0_s_X6_process _).trans ?_ | refine (f0_lp_X6_free_73 _).trans ?_ | refine (f0_lp_X6_free_35 _).trans ?_ | refine (f0_s_X6_process _ _).trans ?_ | refine (f0_lp_X6_free_73 _ _).trans ?_ | refine (f0_lp_X6_free_35 _ _).trans ?_ | refine (f0_s_X6_process _ _ _).trans ?_ | refine (f0_lp_X6_free_73 _ _ _).trans ?_ | refine (f0_lp_X6_free_35 _ _ _).trans ?_ | refine (f0_setFM (by decide)).trans ?_ | refine f0_setAM.trans ?_)
theorem f0_s_X6_free {x : St} {j : Nat} : f0 (s_X6_free x j) = f0 x := by
  unfold s_X6_free
  repeat' (with_reducible first | rfl | refine f0_if ?_ ?_ | refine f0_ifp ?_ ?_ | refine f0_lq_X6_free_15.trans ?_ | refine (f0_lq_X6_free_15 _).trans ?_ | refine (f0_lq_X6_free_15 _ _).trans ?_ | refine (f0_lq_X6_free_15 _ _ _).trans ?_ | refine (f0_setFM (by decide)).trans ?_ | refine f0_setAM.trans ?_)
theorem f0_lp_X6_take_46 {x : St} {k : Nat} {b46_0 : St} : ∀ (n : Nat), f0 (lp_X6_take_46 x k b46_0 n) = f0 b46_0 := by
  intro n
  induction n with
  | zero =>
    skip
    unfold lp_X6_take_46
    repeat' (with_reducible first | rfl | refine f0_if ?_ ?_ | refine f0_ifp ?_ ?_ | refine (f0_setFM (by decide)).trans ?_ | refine f0_setAM.trans ?_)
  | succ n ih =>
    skip
    unfold lp_X6_take_46
    repeat' (with_reducible first | rfl | exact (ih) | refine (ih).trans ?_ | refine f0_if ?_ ?_ | refine f0_ifp ?_ ?_ | refine (f0_setFM (by decide)).trans ?_ | refine f0_setAM.trans ?_)
theorem f0_lp_X6_take_2 {x : St} {k : Nat} {b2_0 : St} : ∀ (n : Nat), f0 (lp_X6_take_2 x k b2_0 n) = f0 b2_0 := by
  intro n
  induction n with
  | zero =>
    skip
    unfold lp_X6_take_2
    repeat' (with_reducible first | rfl | refine f0_if ?_ ?_ | refine f0_ifp ?_ ?_ | refine (f0_setFM (by decide)).trans ?_ | refine f0_setAM.trans ?_)
  | succ n ih =>
    skip
    unfold lp_X6_take_2
    repeat' (with_reducible first | rfl | exact (ih) | refine (ih).trans ?_ | refine f0_if ?_ ?_ | refine f0_ifp ?_ ?_ | refine (f0_setFM (by decide)).trans ?_ | refine f0_setAM.trans ?_)
theorem f0_s_X6_take {x : St} {k : Nat} : f0 (s_X6_take x k) = f0 x := by
  unfold s_X6_take
  repeat' (with_reducible first | rfl | refine f0_if ?_ ?_ | refine f0_ifp ?_ ?_ | refine f0_s_X6_receive.trans ?_ | refine f0_s_X6_enqueue.trans ?_ | refine f0_s_X6_process.trans ?_ | refine f0_s_X6_free.trans ?_ | refine f0_lp_X6_take_46.trans ?_ | refine f0_lp_X6_take_2.trans ?_ | refine (f0_s_X6_receive _).trans ?_ | refine (f0_s_X6_enqueue _).trans ?_ | refine (f0_s_X6_process _).trans ?_ | refine (f0_s_X6_free _).trans ?_ | refine (f0_lp_X6_take_46 _).trans ?_ | refine (f0_lp_X6_take_2 _).trans ?_ | refine (f0_s_X6_receive _ _).trans ?_ | refine (f0_s_X6_enqueue _ _).trans ?_ | refine (f0_s_X6_process _ _).trans ?_ | refine (f0_s_X6_free _ _).trans ?_ | refine (f0_lp_X6_take_46 _ _).trans ?_ | refine (f0_lp_X6_take_2 _ _).trans ?_ | refine (f0_s_X6_receive _ _ _).trans ?_ | refine (f0_s_X6_enqueue _ _ _).trans ?_ | refine (f0_s_X6_process _ _ _).trans ?_ | refine (f0_s_X6_free _ _ _).trans ?_ | refine (f0_lp_X6_take_46 _ _ _).trans ?_ | refine (f0_lp_X6_take_2 _ _ _).trans ?_ | refine (f0_setFM (by decide)).trans ?_ | refine f0_setAM.trans ?_)
theorem f0_lq_X6_settle_ok_24 {x : St} {k : Nat} : ∀ (n : Nat) (u1 : Nat) (u2 : St), f0 (lq_X6_settle_ok_24 x k n u1 u2).2 = f0 u2 := by
  intro n
  induction n with
  | zero =>
    intro u1 u2
    unfold lq_X6_settle_ok_24
    repeat' (with_reducible first | rfl | refine f0_if ?_ ?_ | refine f0_ifp ?_ ?_ | refine f0_s_X6_take.trans ?_ | refine (f0_s_X6_take _).trans ?_ | refine (f0_s_X6_take _ _).trans ?_ | refine (f0_s_X6_take _ _ _).trans ?_ | refine (f0_setFM (by decide)).trans ?_ | refine f0_setAM.trans ?_)
  | succ n ih =>
    intro u1 u2
    unfold lq_X6_settle_ok_24
    repeat' (with_reducible first | rfl | exact (ih _ _) | refine (ih _ _).trans ?_ | refine f0_if ?_ ?_ | refine f0_ifp ?_ ?_ | refine f0_s_X6_take.trans ?_ | refine (f0_s_X6_take _).trans ?_ | refine (f0_s_X6_take _ _).trans ?_ | refine (f0_s_X6_take _ _ _).trans ?_ | refine (f0_setFM (by decide)).trans ?_ | refine f0_setAM.trans ?_)
