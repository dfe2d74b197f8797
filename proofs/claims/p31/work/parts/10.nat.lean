/-- the number that an int stands for -/
abbrev nat (a : Int32) : Nat := a.toNatClampNeg
/-- not a cache's number, not a line's -/
abbrev badC (a : Int32) : Prop := a < 0 ∨ nI 4 ≤ a
abbrev badL (a : Int32) : Prop := a < 0 ∨ nI 16 ≤ a
theorem AM_ne {x : St} {r q : Nat} {f : Nat → Int32} (h : q ≠ r) : (x.setAM r f).AM q = x.AM q := by rw [St.AM_setAM, va_up_ne _ _ h]
theorem AM_eq {x : St} {r : Nat} {f : Nat → Int32} : (x.setAM r f).AM r = f := by rw [St.AM_setAM, va_up_self]
