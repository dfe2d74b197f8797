/-! ===== the state of the whole system, as functions ===== -/
abbrev StT : Type := (Nat → Nat → Int32) × (Nat → Nat → Int32) × (Nat → Nat → Nat → Int32) × (Nat → Nat → Int32) × (Nat → Nat → Int32) × (Nat → Option Nat) × (Nat → Int32) × (Nat → Nat → Int32) × (Int64) × (List Nat) × (Nat → Bool) × (Nat → Nat → Int32) × (Nat → Nat) × (Nat → Nat → Option Nat)
def St : Type := StT
def St.FC (x : St) : Nat → Nat → Int32 := (show StT from x).1
def St.FR (x : St) : Nat → Nat → Int32 := (show StT from x).2.1
def St.AC (x : St) : Nat → Nat → Nat → Int32 := (show StT from x).2.2.1
def St.FH (x : St) : Nat → Nat → Int32 := (show StT from x).2.2.2.1
def St.FL (x : St) : Nat → Nat → Int32 := (show StT from x).2.2.2.2.1
def St.LD (x : St) : Nat → Option Nat := (show StT from x).2.2.2.2.2.1
def St.FM (x : St) : Nat → Int32 := (show StT from x).2.2.2.2.2.2.1
def St.AM (x : St) : Nat → Nat → Int32 := (show StT from x).2.2.2.2.2.2.2.1
def St.OU (x : St) : Int64 := (show StT from x).2.2.2.2.2.2.2.2.1
def St.PL (x : St) : List Nat := (show StT from x).2.2.2.2.2.2.2.2.2.1
def St.PK (x : St) : Nat → Bool := (show StT from x).2.2.2.2.2.2.2.2.2.2.1
def St.MF (x : St) : Nat → Nat → Int32 := (show StT from x).2.2.2.2.2.2.2.2.2.2.2.1
def St.BN (x : St) : Nat → Nat := (show StT from x).2.2.2.2.2.2.2.2.2.2.2.2.1
def St.BR (x : St) : Nat → Nat → Option Nat := (show StT from x).2.2.2.2.2.2.2.2.2.2.2.2.2
def St.mk (FC : Nat → Nat → Int32) (FR : Nat → Nat → Int32) (AC : Nat → Nat → Nat → Int32) (FH : Nat → Nat → Int32) (FL : Nat → Nat → Int32) (LD : Nat → Option Nat) (FM : Nat → Int32) (AM : Nat → Nat → Int32) (OU : Int64) (PL : List Nat) (PK : Nat → Bool) (MF : Nat → Nat → Int32) (BN : Nat → Nat) (BR : Nat → Nat → Option Nat) : St := (show StT from (FC, FR, AC, FH, FL, LD, FM, AM, OU, PL, PK, MF, BN, BR))
abbrev u2 {α : Type} (f : Nat → Nat → α) (i j : Nat) (v : α) : Nat → Nat → α := va_up f i (va_up (f i) j v)
def St.setFC (x : St) (i m : Nat) (v : Int32) : St := St.mk (u2 x.FC i m v) x.FR x.AC x.FH x.FL x.LD x.FM x.AM x.OU x.PL x.PK x.MF x.BN x.BR
def St.setFR (x : St) (i m : Nat) (v : Int32) : St := St.mk x.FC (u2 x.FR i m v) x.AC x.FH x.FL x.LD x.FM x.AM x.OU x.PL x.PK x.MF x.BN x.BR
def St.setAC (x : St) (i a : Nat) (f : Nat → Int32) : St := St.mk x.FC x.FR (va_up x.AC i (va_up (x.AC i) a f)) x.FH x.FL x.LD x.FM x.AM x.OU x.PL x.PK x.MF x.BN x.BR
def St.setFH (x : St) (i m : Nat) (v : Int32) : St := St.mk x.FC x.FR x.AC (u2 x.FH i m v) x.FL x.LD x.FM x.AM x.OU x.PL x.PK x.MF x.BN x.BR
def St.setFL (x : St) (i m : Nat) (v : Int32) : St := St.mk x.FC x.FR x.AC x.FH (u2 x.FL i m v) x.LD x.FM x.AM x.OU x.PL x.PK x.MF x.BN x.BR
def St.setLD (x : St) (i : Nat) (v : Option Nat) : St := St.mk x.FC x.FR x.AC x.FH x.FL (va_up x.LD i v) x.FM x.AM x.OU x.PL x.PK x.MF x.BN x.BR
def St.setFM (x : St) (k : Nat) (v : Int32) : St := St.mk x.FC x.FR x.AC x.FH x.FL x.LD (va_up x.FM k v) x.AM x.OU x.PL x.PK x.MF x.BN x.BR
def St.setAM (x : St) (r : Nat) (f : Nat → Int32) : St := St.mk x.FC x.FR x.AC x.FH x.FL x.LD x.FM (va_up x.AM r f) x.OU x.PL x.PK x.MF x.BN x.BR
def St.setOU (x : St) (v : Int64) : St := St.mk x.FC x.FR x.AC x.FH x.FL x.LD x.FM x.AM (v) x.PL x.PK x.MF x.BN x.BR
def St.setMF (x : St) (a m : Nat) (v : Int32) : St := St.mk x.FC x.FR x.AC x.FH x.FL x.LD x.FM x.AM x.OU x.PL x.PK (u2 x.MF a m v) x.BN x.BR
def St.setBR (x : St) (a : Nat) (f : Nat → Option Nat) : St := St.mk x.FC x.FR x.AC x.FH x.FL x.LD x.FM x.AM x.OU x.PL x.PK x.MF x.BN (va_up x.BR a f)
def St.addM (x : St) (q : Nat) : St := St.mk x.FC x.FR x.AC x.FH x.FL x.LD x.FM x.AM x.OU (x.PL ++ [q]) (va_up x.PK q true) (va_up x.MF q (fun _ => 0)) x.BN x.BR
def St.addB (x : St) (q n : Nat) : St := St.mk x.FC x.FR x.AC x.FH x.FL x.LD x.FM x.AM x.OU (x.PL ++ [q]) (va_up x.PK q false) x.MF (va_up x.BN q n) (va_up x.BR q (fun _ => none))
theorem St.FC_setFC : ∀ (x : St) (i m : Nat) (v : Int32), (x.setFC i m v).FC = u2 x.FC i m v := fun _ _ _ _ => rfl
theorem St.FR_setFC : ∀ (x : St) (i m : Nat) (v : Int32), (x.setFC i m v).FR = x.FR := fun _ _ _ _ => rfl
theorem St.AC_setFC : ∀ (x : St) (i m : Nat) (v : Int32), (x.setFC i m v).AC = x.AC := fun _ _ _ _ => rfl
theorem St.FH_setFC : ∀ (x : St) (i m : Nat) (v : Int32), (x.setFC i m v).FH = x.FH := fun _ _ _ _ => rfl
theorem St.FL_setFC : ∀ (x : St) (i m : Nat) (v : Int32), (x.setFC i m v).FL = x.FL := fun _ _ _ _ => rfl
theorem St.LD_setFC : ∀ (x : St) (i m : Nat) (v : Int32), (x.setFC i m v).LD = x.LD := fun _ _ _ _ => rfl
theorem St.FM_setFC : ∀ (x : St) (i m : Nat) (v : Int32), (x.setFC i m v).FM = x.FM := fun _ _ _ _ => rfl
theorem St.AM_setFC : ∀ (x : St) (i m : Nat) (v : Int32), (x.setFC i m v).AM = x.AM := fun _ _ _ _ => rfl
theorem St.OU_setFC : ∀ (x : St) (i m : Nat) (v : Int32), (x.setFC i m v).OU = x.OU := fun _ _ _ _ => rfl
theorem St.PL_setFC : ∀ (x : St) (i m : Nat) (v : Int32), (x.setFC i m v).PL = x.PL := fun _ _ _ _ => rfl
theorem St.PK_setFC : ∀ (x : St) (i m : Nat) (v : Int32), (x.setFC i m v).PK = x.PK := fun _ _ _ _ => rfl
theorem St.MF_setFC : ∀ (x : St) (i m : Nat) (v : Int32), (x.setFC i m v).MF = x.MF := fun _ _ _ _ => rfl
theorem St.BN_setFC : ∀ (x : St) (i m : Nat) (v : Int32), (x.setFC i m v).BN = x.BN := fun _ _ _ _ => rfl
theorem St.BR_setFC : ∀ (x : St) (i m : Nat) (v : Int32), (x.setFC i m v).BR = x.BR := fun _ _ _ _ => rfl
theorem St.FC_setFR : ∀ (x : St) (i m : Nat) (v : Int32), (x.setFR i m v).FC = x.FC := fun _ _ _ _ => rfl
theorem St.FR_setFR : ∀ (x : St) (i m : Nat) (v : Int32), (x.setFR i m v).FR = u2 x.FR i m v := fun _ _ _ _ => rfl
theorem St.AC_setFR : ∀ (x : St) (i m : Nat) (v : Int32), (x.setFR i m v).AC = x.AC := fun _ _ _ _ => rfl
theorem St.FH_setFR : ∀ (x : St) (i m : Nat) (v : Int32), (x.setFR i m v).FH = x.FH := fun _ _ _ _ => rfl
theorem St.FL_setFR : ∀ (x : St) (i m : Nat) (v : Int32), (x.setFR i m v).FL = x.FL := fun _ _ _ _ => rfl
theorem St.LD_setFR : ∀ (x : St) (i m : Nat) (v : Int32), (x.setFR i m v).LD = x.LD := fun _ _ _ _ => rfl
theorem St.FM_setFR : ∀ (x : St) (i m : Nat) (v : Int32), (x.setFR i m v).FM = x.FM := fun _ _ _ _ => rfl
theorem St.AM_setFR : ∀ (x : St) (i m : Nat) (v : Int32), (x.setFR i m v).AM = x.AM := fun _ _ _ _ => rfl
theorem St.OU_setFR : ∀ (x : St) (i m : Nat) (v : Int32), (x.setFR i m v).OU = x.OU := fun _ _ _ _ => rfl
theorem St.PL_setFR : ∀ (x : St) (i m : Nat) (v : Int32), (x.setFR i m v).PL = x.PL := fun _ _ _ _ => rfl
theorem St.PK_setFR : ∀ (x : St) (i m : Nat) (v : Int32), (x.setFR i m v).PK = x.PK := fun _ _ _ _ => rfl
theorem St.MF_setFR : ∀ (x : St) (i m : Nat) (v : Int32), (x.setFR i m v).MF = x.MF := fun _ _ _ _ => rfl
theorem St.BN_setFR : ∀ (x : St) (i m : Nat) (v : Int32), (x.setFR i m v).BN = x.BN := fun _ _ _ _ => rfl
theorem St.BR_setFR : ∀ (x : St) (i m : Nat) (v : Int32), (x.setFR i m v).BR = x.BR := fun _ _ _ _ => rfl
theorem St.FC_setAC : ∀ (x : St) (i a : Nat) (f : Nat → Int32), (x.setAC i a f).FC = x.FC := fun _ _ _ _ => rfl
theorem St.FR_setAC : ∀ (x : St) (i a : Nat) (f : Nat → Int32), (x.setAC i a f).FR = x.FR := fun _ _ _ _ => rfl
theorem St.AC_setAC : ∀ (x : St) (i a : Nat) (f : Nat → Int32), (x.setAC i a f).AC = va_up x.AC i (va_up (x.AC i) a f) := fun _ _ _ _ => rfl
theorem St.FH_setAC : ∀ (x : St) (i a : Nat) (f : Nat → Int32), (x.setAC i a f).FH = x.FH := fun _ _ _ _ => rfl
theorem St.FL_setAC : ∀ (x : St) (i a : Nat) (f : Nat → Int32), (x.setAC i a f).FL = x.FL := fun _ _ _ _ => rfl
theorem St.LD_setAC : ∀ (x : St) (i a : Nat) (f : Nat → Int32), (x.setAC i a f).LD = x.LD := fun _ _ _ _ => rfl
theorem St.FM_setAC : ∀ (x : St) (i a : Nat) (f : Nat → Int32), (x.setAC i a f).FM = x.FM := fun _ _ _ _ => rfl
theorem St.AM_setAC : ∀ (x : St) (i a : Nat) (f : Nat → Int32), (x.setAC i a f).AM = x.AM := fun _ _ _ _ => rfl
theorem St.OU_setAC : ∀ (x : St) (i a : Nat) (f : Nat → Int32), (x.setAC i a f).OU = x.OU := fun _ _ _ _ => rfl
theorem St.PL_setAC : ∀ (x : St) (i a : Nat) (f : Nat → Int32), (x.setAC i a f).PL = x.PL := fun _ _ _ _ => rfl
theorem St.PK_setAC : ∀ (x : St) (i a : Nat) (f : Nat → Int32), (x.setAC i a f).PK = x.PK := fun _ _ _ _ => rfl
theorem St.MF_setAC : ∀ (x : St) (i a : Nat) (f : Nat → Int32), (x.setAC i a f).MF = x.MF := fun _ _ _ _ => rfl
theorem St.BN_setAC : ∀ (x : St) (i a : Nat) (f : Nat → Int32), (x.setAC i a f).BN = x.BN := fun _ _ _ _ => rfl
theorem St.BR_setAC : ∀ (x : St) (i a : Nat) (f : Nat → Int32), (x.setAC i a f).BR = x.BR := fun _ _ _ _ => rfl
theorem St.FC_setFH : ∀ (x : St) (i m : Nat) (v : Int32), (x.setFH i m v).FC = x.FC := fun _ _ _ _ => rfl
theorem St.FR_setFH : ∀ (x : St) (i m : Nat) (v : Int32), (x.setFH i m v).FR = x.FR := fun _ _ _ _ => rfl
theorem St.AC_setFH : ∀ (x : St) (i m : Nat) (v : Int32), (x.setFH i m v).AC = x.AC := fun _ _ _ _ => rfl
theorem St.FH_setFH : ∀ (x : St) (i m : Nat) (v : Int32), (x.setFH i m v).FH = u2 x.FH i m v := fun _ _ _ _ => rfl
theorem St.FL_setFH : ∀ (x : St) (i m : Nat) (v : Int32), (x.setFH i m v).FL = x.FL := fun _ _ _ _ => rfl
theorem St.LD_setFH : ∀ (x : St) (i m : Nat) (v : Int32), (x.setFH i m v).LD = x.LD := fun _ _ _ _ => rfl
theorem St.FM_setFH : ∀ (x : St) (i m : Nat) (v : Int32), (x.setFH i m v).FM = x.FM := fun _ _ _ _ => rfl
theorem St.AM_setFH : ∀ (x : St) (i m : Nat) (v : Int32), (x.setFH i m v).AM = x.AM := fun _ _ _ _ => rfl
theorem St.OU_setFH : ∀ (x : St) (i m : Nat) (v : Int32), (x.setFH i m v).OU = x.OU := fun _ _ _ _ => rfl
theorem St.PL_setFH : ∀ (x : St) (i m : Nat) (v : Int32), (x.setFH i m v).PL = x.PL := fun _ _ _ _ => rfl
theorem St.PK_setFH : ∀ (x : St) (i m : Nat) (v : Int32), (x.setFH i m v).PK = x.PK := fun _ _ _ _ => rfl
theorem St.MF_setFH : ∀ (x : St) (i m : Nat) (v : Int32), (x.setFH i m v).MF = x.MF := fun _ _ _ _ => rfl
theorem St.BN_setFH : ∀ (x : St) (i m : Nat) (v : Int32), (x.setFH i m v).BN = x.BN := fun _ _ _ _ => rfl
theorem St.BR_setFH : ∀ (x : St) (i m : Nat) (v : Int32), (x.setFH i m v).BR = x.BR := fun _ _ _ _ => rfl
theorem St.FC_setFL : ∀ (x : St) (i m : Nat) (v : Int32), (x.setFL i m v).FC = x.FC := fun _ _ _ _ => rfl
theorem St.FR_setFL : ∀ (x : St) (i m : Nat) (v : Int32), (x.setFL i m v).FR = x.FR := fun _ _ _ _ => rfl
theorem St.AC_setFL : ∀ (x : St) (i m : Nat) (v : Int32), (x.setFL i m v).AC = x.AC := fun _ _ _ _ => rfl
theorem St.FH_setFL : ∀ (x : St) (i m : Nat) (v : Int32), (x.setFL i m v).FH = x.FH := fun _ _ _ _ => rfl
theorem St.FL_setFL : ∀ (x : St) (i m : Nat) (v : Int32), (x.setFL i m v).FL = u2 x.FL i m v := fun _ _ _ _ => rfl
theorem St.LD_setFL : ∀ (x : St) (i m : Nat) (v : Int32), (x.setFL i m v).LD = x.LD := fun _ _ _ _ => rfl
theorem St.FM_setFL : ∀ (x : St) (i m : Nat) (v : Int32), (x.setFL i m v).FM = x.FM := fun _ _ _ _ => rfl
theorem St.AM_setFL : ∀ (x : St) (i m : Nat) (v : Int32), (x.setFL i m v).AM = x.AM := fun _ _ _ _ => rfl
theorem St.OU_setFL : ∀ (x : St) (i m : Nat) (v : Int32), (x.setFL i m v).OU = x.OU := fun _ _ _ _ => rfl
theorem St.PL_setFL : ∀ (x : St) (i m : Nat) (v : Int32), (x.setFL i m v).PL = x.PL := fun _ _ _ _ => rfl
theorem St.PK_setFL : ∀ (x : St) (i m : Nat) (v : Int32), (x.setFL i m v).PK = x.PK := fun _ _ _ _ => rfl
theorem St.MF_setFL : ∀ (x : St) (i m : Nat) (v : Int32), (x.setFL i m v).MF = x.MF := fun _ _ _ _ => rfl
theorem St.BN_setFL : ∀ (x : St) (i m : Nat) (v : Int32), (x.setFL i m v).BN = x.BN := fun _ _ _ _ => rfl
theorem St.BR_setFL : ∀ (x : St) (i m : Nat) (v : Int32), (x.setFL i m v).BR = x.BR := fun _ _ _ _ => rfl
theorem St.FC_setLD : ∀ (x : St) (i : Nat) (v : Option Nat), (x.setLD i v).FC = x.FC := fun _ _ _ => rfl
theorem St.FR_setLD : ∀ (x : St) (i : Nat) (v : Option Nat), (x.setLD i v).FR = x.FR := fun _ _ _ => rfl
theorem St.AC_setLD : ∀ (x : St) (i : Nat) (v : Option Nat), (x.setLD i v).AC = x.AC := fun _ _ _ => rfl
theorem St.FH_setLD : ∀ (x : St) (i : Nat) (v : Option Nat), (x.setLD i v).FH = x.FH := fun _ _ _ => rfl
theorem St.FL_setLD : ∀ (x : St) (i : Nat) (v : Option Nat), (x.setLD i v).FL = x.FL := fun _ _ _ => rfl
theorem St.LD_setLD : ∀ (x : St) (i : Nat) (v : Option Nat), (x.setLD i v).LD = va_up x.LD i v := fun _ _ _ => rfl
theorem St.FM_setLD : ∀ (x : St) (i : Nat) (v : Option Nat), (x.setLD i v).FM = x.FM := fun _ _ _ => rfl
theorem St.AM_setLD : ∀ (x : St) (i : Nat) (v : Option Nat), (x.setLD i v).AM = x.AM := fun _ _ _ => rfl
theorem St.OU_setLD : ∀ (x : St) (i : Nat) (v : Option Nat), (x.setLD i v).OU = x.OU := fun _ _ _ => rfl
theorem St.PL_setLD : ∀ (x : St) (i : Nat) (v : Option Nat), (x.setLD i v).PL = x.PL := fun _ _ _ => rfl
theorem St.PK_setLD : ∀ (x : St) (i : Nat) (v : Option Nat), (x.setLD i v).PK = x.PK := fun _ _ _ => rfl
theorem St.MF_setLD : ∀ (x : St) (i : Nat) (v : Option Nat), (x.setLD i v).MF = x.MF := fun _ _ _ => rfl
theorem St.BN_setLD : ∀ (x : St) (i : Nat) (v : Option Nat), (x.setLD i v).BN = x.BN := fun _ _ _ => rfl
theorem St.BR_setLD : ∀ (x : St) (i : Nat) (v : Option Nat), (x.setLD i v).BR = x.BR := fun _ _ _ => rfl
theorem St.FC_setFM : ∀ (x : St) (k : Nat) (v : Int32), (x.setFM k v).FC = x.FC := fun _ _ _ => rfl
theorem St.FR_setFM : ∀ (x : St) (k : Nat) (v : Int32), (x.setFM k v).FR = x.FR := fun _ _ _ => rfl
theorem St.AC_setFM : ∀ (x : St) (k : Nat) (v : Int32), (x.setFM k v).AC = x.AC := fun _ _ _ => rfl
theorem St.FH_setFM : ∀ (x : St) (k : Nat) (v : Int32), (x.setFM k v).FH = x.FH := fun _ _ _ => rfl
theorem St.FL_setFM : ∀ (x : St) (k : Nat) (v : Int32), (x.setFM k v).FL = x.FL := fun _ _ _ => rfl
theorem St.LD_setFM : ∀ (x : St) (k : Nat) (v : Int32), (x.setFM k v).LD = x.LD := fun _ _ _ => rfl
theorem St.FM_setFM : ∀ (x : St) (k : Nat) (v : Int32), (x.setFM k v).FM = va_up x.FM k v := fun _ _ _ => rfl
theorem St.AM_setFM : ∀ (x : St) (k : Nat) (v : Int32), (x.setFM k v).AM = x.AM := fun _ _ _ => rfl
theorem St.OU_setFM : ∀ (x : St) (k : Nat) (v : Int32), (x.setFM k v).OU = x.OU := fun _ _ _ => rfl
theorem St.PL_setFM : ∀ (x : St) (k : Nat) (v : Int32), (x.setFM k v).PL = x.PL := fun _ _ _ => rfl
theorem St.PK_setFM : ∀ (x : St) (k : Nat) (v : Int32), (x.setFM k v).PK = x.PK := fun _ _ _ => rfl
theorem St.MF_setFM : ∀ (x : St) (k : Nat) (v : Int32), (x.setFM k v).MF = x.MF := fun _ _ _ => rfl
theorem St.BN_setFM : ∀ (x : St) (k : Nat) (v : Int32), (x.setFM k v).BN = x.BN := fun _ _ _ => rfl
theorem St.BR_setFM : ∀ (x : St) (k : Nat) (v : Int32), (x.setFM k v).BR = x.BR := fun _ _ _ => rfl
theorem St.FC_setAM : ∀ (x : St) (r : Nat) (f : Nat → Int32), (x.setAM r f).FC = x.FC := fun _ _ _ => rfl
theorem St.FR_setAM : ∀ (x : St) (r : Nat) (f : Nat → Int32), (x.setAM r f).FR = x.FR := fun _ _ _ => rfl
theorem St.AC_setAM : ∀ (x : St) (r : Nat) (f : Nat → Int32), (x.setAM r f).AC = x.AC := fun _ _ _ => rfl
theorem St.FH_setAM : ∀ (x : St) (r : Nat) (f : Nat → Int32), (x.setAM r f).FH = x.FH := fun _ _ _ => rfl
theorem St.FL_setAM : ∀ (x : St) (r : Nat) (f : Nat → Int32), (x.setAM r f).FL = x.FL := fun _ _ _ => rfl
theorem St.LD_setAM : ∀ (x : St) (r : Nat) (f : Nat → Int32), (x.setAM r f).LD = x.LD := fun _ _ _ => rfl
theorem St.FM_setAM : ∀ (x : St) (r : Nat) (f : Nat → Int32), (x.setAM r f).FM = x.FM := fun _ _ _ => rfl
theorem St.AM_setAM : ∀ (x : St) (r : Nat) (f : Nat → Int32), (x.setAM r f).AM = va_up x.AM r f := fun _ _ _ => rfl
theorem St.OU_setAM : ∀ (x : St) (r : Nat) (f : Nat → Int32), (x.setAM r f).OU = x.OU := fun _ _ _ => rfl
theorem St.PL_setAM : ∀ (x : St) (r : Nat) (f : Nat → Int32), (x.setAM r f).PL = x.PL := fun _ _ _ => rfl
theorem St.PK_setAM : ∀ (x : St) (r : Nat) (f : Nat → Int32), (x.setAM r f).PK = x.PK := fun _ _ _ => rfl
theorem St.MF_setAM : ∀ (x : St) (r : Nat) (f : Nat → Int32), (x.setAM r f).MF = x.MF := fun _ _ _ => rfl
theorem St.BN_setAM : ∀ (x : St) (r : Nat) (f : Nat → Int32), (x.setAM r f).BN = x.BN := fun _ _ _ => rfl
theorem St.BR_setAM : ∀ (x : St) (r : Nat) (f : Nat → Int32), (x.setAM r f).BR = x.BR := fun _ _ _ => rfl
theorem St.FC_setOU : ∀ (x : St) (v : Int64), (x.setOU v).FC = x.FC := fun _ _ => rfl
theorem St.FR_setOU : ∀ (x : St) (v : Int64), (x.setOU v).FR = x.FR := fun _ _ => rfl
theorem St.AC_setOU : ∀ (x : St) (v : Int64), (x.setOU v).AC = x.AC := fun _ _ => rfl
theorem St.FH_setOU : ∀ (x : St) (v : Int64), (x.setOU v).FH = x.FH := fun _ _ => rfl
theorem St.FL_setOU : ∀ (x : St) (v : Int64), (x.setOU v).FL = x.FL := fun _ _ => rfl
theorem St.LD_setOU : ∀ (x : St) (v : Int64), (x.setOU v).LD = x.LD := fun _ _ => rfl
theorem St.FM_setOU : ∀ (x : St) (v : Int64), (x.setOU v).FM = x.FM := fun _ _ => rfl
theorem St.AM_setOU : ∀ (x : St) (v : Int64), (x.setOU v).AM = x.AM := fun _ _ => rfl
theorem St.OU_setOU : ∀ (x : St) (v : Int64), (x.setOU v).OU = v := fun _ _ => rfl
theorem St.PL_setOU : ∀ (x : St) (v : Int64), (x.setOU v).PL = x.PL := fun _ _ => rfl
theorem St.PK_setOU : ∀ (x : St) (v : Int64), (x.setOU v).PK = x.PK := fun _ _ => rfl
theorem St.MF_setOU : ∀ (x : St) (v : Int64), (x.setOU v).MF = x.MF := fun _ _ => rfl
theorem St.BN_setOU : ∀ (x : St) (v : Int64), (x.setOU v).BN = x.BN := fun _ _ => rfl
theorem St.BR_setOU : ∀ (x : St) (v : Int64), (x.setOU v).BR = x.BR := fun _ _ => rfl
theorem St.FC_setMF : ∀ (x : St) (a m : Nat) (v : Int32), (x.setMF a m v).FC = x.FC := fun _ _ _ _ => rfl
theorem St.FR_setMF : ∀ (x : St) (a m : Nat) (v : Int32), (x.setMF a m v).FR = x.FR := fun _ _ _ _ => rfl
theorem St.AC_setMF : ∀ (x : St) (a m : Nat) (v : Int32), (x.setMF a m v).AC = x.AC := fun _ _ _ _ => rfl
theorem St.FH_setMF : ∀ (x : St) (a m : Nat) (v : Int32), (x.setMF a m v).FH = x.FH := fun _ _ _ _ => rfl
theorem St.FL_setMF : ∀ (x : St) (a m : Nat) (v : Int32), (x.setMF a m v).FL = x.FL := fun _ _ _ _ => rfl
theorem St.LD_setMF : ∀ (x : St) (a m : Nat) (v : Int32), (x.setMF a m v).LD = x.LD := fun _ _ _ _ => rfl
theorem St.FM_setMF : ∀ (x : St) (a m : Nat) (v : Int32), (x.setMF a m v).FM = x.FM := fun _ _ _ _ => rfl
theorem St.AM_setMF : ∀ (x : St) (a m : Nat) (v : Int32), (x.setMF a m v).AM = x.AM := fun _ _ _ _ => rfl
theorem St.OU_setMF : ∀ (x : St) (a m : Nat) (v : Int32), (x.setMF a m v).OU = x.OU := fun _ _ _ _ => rfl
theorem St.PL_setMF : ∀ (x : St) (a m : Nat) (v : Int32), (x.setMF a m v).PL = x.PL := fun _ _ _ _ => rfl
theorem St.PK_setMF : ∀ (x : St) (a m : Nat) (v : Int32), (x.setMF a m v).PK = x.PK := fun _ _ _ _ => rfl
theorem St.MF_setMF : ∀ (x : St) (a m : Nat) (v : Int32), (x.setMF a m v).MF = u2 x.MF a m v := fun _ _ _ _ => rfl
theorem St.BN_setMF : ∀ (x : St) (a m : Nat) (v : Int32), (x.setMF a m v).BN = x.BN := fun _ _ _ _ => rfl
theorem St.BR_setMF : ∀ (x : St) (a m : Nat) (v : Int32), (x.setMF a m v).BR = x.BR := fun _ _ _ _ => rfl
theorem St.FC_setBR : ∀ (x : St) (a : Nat) (f : Nat → Option Nat), (x.setBR a f).FC = x.FC := fun _ _ _ => rfl
theorem St.FR_setBR : ∀ (x : St) (a : Nat) (f : Nat → Option Nat), (x.setBR a f).FR = x.FR := fun _ _ _ => rfl
theorem St.AC_setBR : ∀ (x : St) (a : Nat) (f : Nat → Option Nat), (x.setBR a f).AC = x.AC := fun _ _ _ => rfl
theorem St.FH_setBR : ∀ (x : St) (a : Nat) (f : Nat → Option Nat), (x.setBR a f).FH = x.FH := fun _ _ _ => rfl
theorem St.FL_setBR : ∀ (x : St) (a : Nat) (f : Nat → Option Nat), (x.setBR a f).FL = x.FL := fun _ _ _ => rfl
theorem St.LD_setBR : ∀ (x : St) (a : Nat) (f : Nat → Option Nat), (x.setBR a f).LD = x.LD := fun _ _ _ => rfl
theorem St.FM_setBR : ∀ (x : St) (a : Nat) (f : Nat → Option Nat), (x.setBR a f).FM = x.FM := fun _ _ _ => rfl
theorem St.AM_setBR : ∀ (x : St) (a : Nat) (f : Nat → Option Nat), (x.setBR a f).AM = x.AM := fun _ _ _ => rfl
theorem St.OU_setBR : ∀ (x : St) (a : Nat) (f : Nat → Option Nat), (x.setBR a f).OU = x.OU := fun _ _ _ => rfl
theorem St.PL_setBR : ∀ (x : St) (a : Nat) (f : Nat → Option Nat), (x.setBR a f).PL = x.PL := fun _ _ _ => rfl
theorem St.PK_setBR : ∀ (x : St) (a : Nat) (f : Nat → Option Nat), (x.setBR a f).PK = x.PK := fun _ _ _ => rfl
theorem St.MF_setBR : ∀ (x : St) (a : Nat) (f : Nat → Option Nat), (x.setBR a f).MF = x.MF := fun _ _ _ => rfl
theorem St.BN_setBR : ∀ (x : St) (a : Nat) (f : Nat → Option Nat), (x.setBR a f).BN = x.BN := fun _ _ _ => rfl
theorem St.BR_setBR : ∀ (x : St) (a : Nat) (f : Nat → Option Nat), (x.setBR a f).BR = va_up x.BR a f := fun _ _ _ => rfl
theorem St.FC_addM : ∀ (x : St) (q : Nat), (x.addM q).FC = x.FC := fun _ _ => rfl
theorem St.FR_addM : ∀ (x : St) (q : Nat), (x.addM q).FR = x.FR := fun _ _ => rfl
theorem St.AC_addM : ∀ (x : St) (q : Nat), (x.addM q).AC = x.AC := fun _ _ => rfl
theorem St.FH_addM : ∀ (x : St) (q : Nat), (x.addM q).FH = x.FH := fun _ _ => rfl
theorem St.FL_addM : ∀ (x : St) (q : Nat), (x.addM q).FL = x.FL := fun _ _ => rfl
theorem St.LD_addM : ∀ (x : St) (q : Nat), (x.addM q).LD = x.LD := fun _ _ => rfl
theorem St.FM_addM : ∀ (x : St) (q : Nat), (x.addM q).FM = x.FM := fun _ _ => rfl
theorem St.AM_addM : ∀ (x : St) (q : Nat), (x.addM q).AM = x.AM := fun _ _ => rfl
theorem St.OU_addM : ∀ (x : St) (q : Nat), (x.addM q).OU = x.OU := fun _ _ => rfl
theorem St.PL_addM : ∀ (x : St) (q : Nat), (x.addM q).PL = x.PL ++ [q] := fun _ _ => rfl
theorem St.PK_addM : ∀ (x : St) (q : Nat), (x.addM q).PK = va_up x.PK q true := fun _ _ => rfl
theorem St.MF_addM : ∀ (x : St) (q : Nat), (x.addM q).MF = va_up x.MF q (fun _ => 0) := fun _ _ => rfl
theorem St.BN_addM : ∀ (x : St) (q : Nat), (x.addM q).BN = x.BN := fun _ _ => rfl
theorem St.BR_addM : ∀ (x : St) (q : Nat), (x.addM q).BR = x.BR := fun _ _ => rfl
theorem St.FC_addB : ∀ (x : St) (q n : Nat), (x.addB q n).FC = x.FC := fun _ _ _ => rfl
theorem St.FR_addB : ∀ (x : St) (q n : Nat), (x.addB q n).FR = x.FR := fun _ _ _ => rfl
theorem St.AC_addB : ∀ (x : St) (q n : Nat), (x.addB q n).AC = x.AC := fun _ _ _ => rfl
theorem St.FH_addB : ∀ (x : St) (q n : Nat), (x.addB q n).FH = x.FH := fun _ _ _ => rfl
theorem St.FL_addB : ∀ (x : St) (q n : Nat), (x.addB q n).FL = x.FL := fun _ _ _ => rfl
theorem St.LD_addB : ∀ (x : St) (q n : Nat), (x.addB q n).LD = x.LD := fun _ _ _ => rfl
theorem St.FM_addB : ∀ (x : St) (q n : Nat), (x.addB q n).FM = x.FM := fun _ _ _ => rfl
theorem St.AM_addB : ∀ (x : St) (q n : Nat), (x.addB q n).AM = x.AM := fun _ _ _ => rfl
theorem St.OU_addB : ∀ (x : St) (q n : Nat), (x.addB q n).OU = x.OU := fun _ _ _ => rfl
theorem St.PL_addB : ∀ (x : St) (q n : Nat), (x.addB q n).PL = x.PL ++ [q] := fun _ _ _ => rfl
theorem St.PK_addB : ∀ (x : St) (q n : Nat), (x.addB q n).PK = va_up x.PK q false := fun _ _ _ => rfl
theorem St.MF_addB : ∀ (x : St) (q n : Nat), (x.addB q n).MF = x.MF := fun _ _ _ => rfl
theorem St.BN_addB : ∀ (x : St) (q n : Nat), (x.addB q n).BN = va_up x.BN q n := fun _ _ _ => rfl
theorem St.BR_addB : ∀ (x : St) (q n : Nat), (x.addB q n).BR = va_up x.BR q (fun _ => none) := fun _ _ _ => rfl
theorem St.acc : (∀ (x : St) (i m : Nat) (v : Int32), (x.setFC i m v).FC = u2 x.FC i m v) ∧ (∀ (x : St) (i m : Nat) (v : Int32), (x.setFC i m v).FR = x.FR) ∧ (∀ (x : St) (i m : Nat) (v : Int32), (x.setFC i m v).AC = x.AC) ∧ (∀ (x : St) (i m : Nat) (v : Int32), (x.setFC i m v).FH = x.FH) ∧ (∀ (x : St) (i m : Nat) (v : Int32), (x.setFC i m v).FL = x.FL) ∧ (∀ (x : St) (i m : Nat) (v : Int32), (x.setFC i m v).LD = x.LD) ∧ (∀ (x : St) (i m : Nat) (v : Int32), (x.setFC i m v).FM = x.FM) ∧ (∀ (x : St) (i m : Nat) (v : Int32), (x.setFC i m v).AM = x.AM) ∧ (∀ (x : St) (i m : Nat) (v : Int32), (x.setFC i m v).OU = x.OU) ∧ (∀ (x : St) (i m : Nat) (v : Int32), (x.setFC i m v).PL = x.PL) ∧ (∀ (x : St) (i m : Nat) (v : Int32), (x.setFC i m v).PK = x.PK) ∧ (∀ (x : St) (i m : Nat) (v : Int32), (x.setFC i m v).MF = x.MF) ∧ (∀ (x : St) (i m : Nat) (v : Int32), (x.setFC i m v).BN = x.BN) ∧ (∀ (x : St) (i m : Nat) (v : Int32), (x.setFC i m v).BR = x.BR) ∧ (∀ (x : St) (i m : Nat) (v : Int32), (x.setFR i m v).FC = x.FC) ∧ (∀ (x : St) (i m : Nat) (v : Int32), (x.setFR i m v).FR = u2 x.FR i m v) ∧ (∀ (x : St) (i m : Nat) (v : Int32), (x.setFR i m v).AC = x.AC) ∧ (∀ (x : St) (i m : Nat) (v : Int32), (x.setFR i m v).FH = x.FH) ∧ (∀ (x : St) (i m : Nat) (v : Int32), (x.setFR i m v).FL = x.FL) ∧ (∀ (x : St) (i m : Nat) (v : Int32), (x.setFR i m v).LD = x.LD) ∧ (∀ (x : St) (i m : Nat) (v : Int32), (x.setFR i m v).FM = x.FM) ∧ (∀ (x : St) (i m : Nat) (v : Int32), (x.setFR i m v).AM = x.AM) ∧ (∀ (x : St) (i m : Nat) (v : Int32), (x.setFR i m v).OU = x.OU) ∧ (∀ (x : St) (i m : Nat) (v : Int32), (x.setFR i m v).PL = x.PL) ∧ (∀ (x : St) (i m : Nat) (v : Int32), (x.setFR i m v).PK = x.PK) ∧ (∀ (x : St) (i m : Nat) (v : Int32), (x.setFR i m v).MF = x.MF) ∧ (∀ (x : St) (i m : Nat) (v : Int32), (x.setFR i m v).BN = x.BN) ∧ (∀ (x : St) (i m : Nat) (v : Int32), (x.setFR i m v).BR = x.BR) ∧ (∀ (x : St) (i a : Nat) (f : Nat → Int32), (x.setAC i a f).FC = x.FC) ∧ (∀ (x : St) (i a : Nat) (f : Nat → Int32), (x.setAC i a f).FR = x.FR) ∧ (∀ (x : St) (i a : Nat) (f : Nat → Int32), (x.setAC i a f).AC = va_up x.AC i (va_up (x.AC i) a f)) ∧ (∀ (x : St) (i a : Nat) (f : Nat → Int32), (x.setAC i a f).FH = x.FH) ∧ (∀ (x : St) (i a : Nat) (f : Nat → Int32), (x.setAC i a f).FL = x.FL) ∧ (∀ (x : St) (i a : Nat) (f : Nat → Int32), (x.setAC i a f).LD = x.LD) ∧ (∀ (x : St) (i a : Nat) (f : Nat → Int32), (x.setAC i a f).FM = x.FM) ∧ (∀ (x : St) (i a : Nat) (f : Nat → Int32), (x.setAC i a f).AM = x.AM) ∧ (∀ (x : St) (i a : Nat) (f : Nat → Int32), (x.setAC i a f).OU = x.OU) ∧ (∀ (x : St) (i a : Nat) (f : Nat → Int32), (x.setAC i a f).PL = x.PL) ∧ (∀ (x : St) (i a : Nat) (f : Nat → Int32), (x.setAC i a f).PK = x.PK) ∧ (∀ (x : St) (i a : Nat) (f : Nat → Int32), (x.setAC i a f).MF = x.MF) ∧ (∀ (x : St) (i a : Nat) (f : Nat → Int32), (x.setAC i a f).BN = x.BN) ∧ (∀ (x : St) (i a : Nat) (f : Nat → Int32), (x.setAC i a f).BR = x.BR) ∧ (∀ (x : St) (i m : Nat) (v : Int32), (x.setFH i m v).FC = x.FC) ∧ (∀ (x : St) (i m : Nat) (v : Int32), (x.setFH i m v).FR = x.FR) ∧ (∀ (x : St) (i m : Nat) (v : Int32), (x.setFH i m v).AC = x.AC) ∧ (∀ (x : St) (i m : Nat) (v : Int32), (x.setFH i m v).FH = u2 x.FH i m v) ∧ (∀ (x : St) (i m : Nat) (v : Int32), (x.setFH i m v).FL = x.FL) ∧ (∀ (x : St) (i m : Nat) (v : Int32), (x.setFH i m v).LD = x.LD) ∧ (∀ (x : St) (i m : Nat) (v : Int32), (x.setFH i m v).FM = x.FM) ∧ (∀ (x : St) (i m : Nat) (v : Int32), (x.setFH i m v).AM = x.AM) ∧ (∀ (x : St) (i m : Nat) (v : Int32), (x.setFH i m v).OU = x.OU) ∧ (∀ (x : St) (i m : Nat) (v : Int32), (x.setFH i m v).PL = x.PL) ∧ (∀ (x : St) (i m : Nat) (v : Int32), (x.setFH i m v).PK = x.PK) ∧ (∀ (x : St) (i m : Nat) (v : Int32), (x.setFH i m v).MF = x.MF) ∧ (∀ (x : St) (i m : Nat) (v : Int32), (x.setFH i m v).BN = x.BN) ∧ (∀ (x : St) (i m : Nat) (v : Int32), (x.setFH i m v).BR = x.BR) ∧ (∀ (x : St) (i m : Nat) (v : Int32), (x.setFL i m v).FC = x.FC) ∧ (∀ (x : St) (i m : Nat) (v : Int32), (x.setFL i m v).FR = x.FR) ∧ (∀ (x : St) (i m : Nat) (v : Int32), (x.setFL i m v).AC = x.AC) ∧ (∀ (x : St) (i m : Nat) (v : Int32), (x.setFL i m v).FH = x.FH) ∧ (∀ (x : St) (i m : Nat) (v : Int32), (x.setFL i m v).FL = u2 x.FL i m v) ∧ (∀ (x : St) (i m : Nat) (v : Int32), (x.setFL i m v).LD = x.LD) ∧ (∀ (x : St) (i m : Nat) (v : Int32), (x.setFL i m v).FM = x.FM) ∧ (∀ (x : St) (i m : Nat) (v : Int32), (x.setFL i m v).AM = x.AM) ∧ (∀ (x : St) (i m : Nat) (v : Int32), (x.setFL i m v).OU = x.OU) ∧ (∀ (x : St) (i m : Nat) (v : Int32), (x.setFL i m v).PL = x.PL) ∧ (∀ (x : St) (i m : Nat) (v : Int32), (x.setFL i m v).PK = x.PK) ∧ (∀ (x : St) (i m : Nat) (v : Int32), (x.setFL i m v).MF = x.MF) ∧ (∀ (x : St) (i m : Nat) (v : Int32), (x.setFL i m v).BN = x.BN) ∧ (∀ (x : St) (i m : Nat) (v : Int32), (x.setFL i m v).BR = x.BR) ∧ (∀ (x : St) (i : Nat) (v : Option Nat), (x.setLD i v).FC = x.FC) ∧ (∀ (x : St) (i : Nat) (v : Option Nat), (x.setLD i v).FR = x.FR) ∧ (∀ (x : St) (i : Nat) (v : Option Nat), (x.setLD i v).AC = x.AC) ∧ (∀ (x : St) (i : Nat) (v : Option Nat), (x.setLD i v).FH = x.FH) ∧ (∀ (x : St) (i : Nat) (v : Option Nat), (x.setLD i v).FL = x.FL) ∧ (∀ (x : St) (i : Nat) (v : Option Nat), (x.setLD i v).LD = va_up x.LD i v) ∧ (∀ (x : St) (i : Nat) (v : Option Nat), (x.setLD i v).FM = x.FM) ∧ (∀ (x : St) (i : Nat) (v : Option Nat), (x.setLD i v).AM = x.AM) ∧ (∀ (x : St) (i : Nat) (v : Option Nat), (x.setLD i v).OU = x.OU) ∧ (∀ (x : St) (i : Nat) (v : Option Nat), (x.setLD i v).PL = x.PL) ∧ (∀ (x : St) (i : Nat) (v : Option Nat), (x.setLD i v).PK = x.PK) ∧ (∀ (x : St) (i : Nat) (v : Option Nat), (x.setLD i v).MF = x.MF) ∧ (∀ (x : St) (i : Nat) (v : Option Nat), (x.setLD i v).BN = x.BN) ∧ (∀ (x : St) (i : Nat) (v : Option Nat), (x.setLD i v).BR = x.BR) ∧ (∀ (x : St) (k : Nat) (v : Int32), (x.setFM k v).FC = x.FC) ∧ (∀ (x : St) (k : Nat) (v : Int32), (x.setFM k v).FR = x.FR) ∧ (∀ (x : St) (k : Nat) (v : Int32), (x.setFM k v).AC = x.AC) ∧ (∀ (x : St) (k : Nat) (v : Int32), (x.setFM k v).FH = x.FH) ∧ (∀ (x : St) (k : Nat) (v : Int32), (x.setFM k v).FL = x.FL) ∧ (∀ (x : St) (k : Nat) (v : Int32), (x.setFM k v).LD = x.LD) ∧ (∀ (x : St) (k : Nat) (v : Int32), (x.setFM k v).FM = va_up x.FM k v) ∧ (∀ (x : St) (k : Nat) (v : Int32), (x.setFM k v).AM = x.AM) ∧ (∀ (x : St) (k : Nat) (v : Int32), (x.setFM k v).OU = x.OU) ∧ (∀ (x : St) (k : Nat) (v : Int32), (x.setFM k v).PL = x.PL) ∧ (∀ (x : St) (k : Nat) (v : Int32), (x.setFM k v).PK = x.PK) ∧ (∀ (x : St) (k : Nat) (v : Int32), (x.setFM k v).MF = x.MF) ∧ (∀ (x : St) (k : Nat) (v : Int32), (x.setFM k v).BN = x.BN) ∧ (∀ (x : St) (k : Nat) (v : Int32), (x.setFM k v).BR = x.BR) ∧ (∀ (x : St) (r : Nat) (f : Nat → Int32), (x.setAM r f).FC = x.FC) ∧ (∀ (x : St) (r : Nat) (f : Nat → Int32), (x.setAM r f).FR = x.FR) ∧ (∀ (x : St) (r : Nat) (f : Nat → Int32), (x.setAM r f).AC = x.AC) ∧ (∀ (x : St) (r : Nat) (f : Nat → Int32), (x.setAM r f).FH = x.FH) ∧ (∀ (x : St) (r : Nat) (f : Nat → Int32), (x.setAM r f).FL = x.FL) ∧ (∀ (x : St) (r : Nat) (f : Nat → Int32), (x.setAM r f).LD = x.LD) ∧ (∀ (x : St) (r : Nat) (f : Nat → Int32), (x.setAM r f).FM = x.FM) ∧ (∀ (x : St) (r : Nat) (f : Nat → Int32), (x.setAM r f).AM = va_up x.AM r f) ∧ (∀ (x : St) (r : Nat) (f : Nat → Int32), (x.setAM r f).OU = x.OU) ∧ (∀ (x : St) (r : Nat) (f : Nat → Int32), (x.setAM r f).PL = x.PL) ∧ (∀ (x : St) (r : Nat) (f : Nat → Int32), (x.setAM r f).PK = x.PK) ∧ (∀ (x : St) (r : Nat) (f : Nat → Int32), (x.setAM r f).MF = x.MF) ∧ (∀ (x : St) (r : Nat) (f : Nat → Int32), (x.setAM r f).BN = x.BN) ∧ (∀ (x : St) (r : Nat) (f : Nat → Int32), (x.setAM r f).BR = x.BR) ∧ (∀ (x : St) (v : Int64), (x.setOU v).FC = x.FC) ∧ (∀ (x : St) (v : Int64), (x.setOU v).FR = x.FR) ∧ (∀ (x : St) (v : Int64), (x.setOU v).AC = x.AC) ∧ (∀ (x : St) (v : Int64), (x.setOU v).FH = x.FH) ∧ (∀ (x : St) (v : Int64), (x.setOU v).FL = x.FL) ∧ (∀ (x : St) (v : Int64), (x.setOU v).LD = x.LD) ∧ (∀ (x : St) (v : Int64), (x.setOU v).FM = x.FM) ∧ (∀ (x : St) (v : Int64), (x.setOU v).AM = x.AM) ∧ (∀ (x : St) (v : Int64), (x.setOU v).OU = v) ∧ (∀ (x : St) (v : Int64), (x.setOU v).PL = x.PL) ∧ (∀ (x : St) (v : Int64), (x.setOU v).PK = x.PK) ∧ (∀ (x : St) (v : Int64), (x.setOU v).MF = x.MF) ∧ (∀ (x : St) (v : Int64), (x.setOU v).BN = x.BN) ∧ (∀ (x : St) (v : Int64), (x.setOU v).BR = x.BR) ∧ (∀ (x : St) (a m : Nat) (v : Int32), (x.setMF a m v).FC = x.FC) ∧ (∀ (x : St) (a m : Nat) (v : Int32), (x.setMF a m v).FR = x.FR) ∧ (∀ (x : St) (a m : Nat) (v : Int32), (x.setMF a m v).AC = x.AC) ∧ (∀ (x : St) (a m : Nat) (v : Int32), (x.setMF a m v).FH = x.FH) ∧ (∀ (x : St) (a m : Nat) (v : Int32), (x.setMF a m v).FL = x.FL) ∧ (∀ (x : St) (a m : Nat) (v : Int32), (x.setMF a m v).LD = x.LD) ∧ (∀ (x : St) (a m : Nat) (v : Int32), (x.setMF a m v).FM = x.FM) ∧ (∀ (x : St) (a m : Nat) (v : Int32), (x.setMF a m v).AM = x.AM) ∧ (∀ (x : St) (a m : Nat) (v : Int32), (x.setMF a m v).OU = x.OU) ∧ (∀ (x : St) (a m : Nat) (v : Int32), (x.setMF a m v).PL = x.PL) ∧ (∀ (x : St) (a m : Nat) (v : Int32), (x.setMF a m v).PK = x.PK) ∧ (∀ (x : St) (a m : Nat) (v : Int32), (x.setMF a m v).MF = u2 x.MF a m v) ∧ (∀ (x : St) (a m : Nat) (v : Int32), (x.setMF a m v).BN = x.BN) ∧ (∀ (x : St) (a m : Nat) (v : Int32), (x.setMF a m v).BR = x.BR) ∧ (∀ (x : St) (a : Nat) (f : Nat → Option Nat), (x.setBR a f).FC = x.FC) ∧ (∀ (x : St) (a : Nat) (f : Nat → Option Nat), (x.setBR a f).FR = x.FR) ∧ (∀ (x : St) (a : Nat) (f : Nat → Option Nat), (x.setBR a f).AC = x.AC) ∧ (∀ (x : St) (a : Nat) (f : Nat → Option Nat), (x.setBR a f).FH = x.FH) ∧ (∀ (x : St) (a : Nat) (f : Nat → Option Nat), (x.setBR a f).FL = x.FL) ∧ (∀ (x : St) (a : Nat) (f : Nat → Option Nat), (x.setBR a f).LD = x.LD) ∧ (∀ (x : St) (a : Nat) (f : Nat → Option Nat), (x.setBR a f).FM = x.FM) ∧ (∀ (x : St) (a : Nat) (f : Nat → Option Nat), (x.setBR a f).AM = x.AM) ∧ (∀ (x : St) (a : Nat) (f : Nat → Option Nat), (x.setBR a f).OU = x.OU) ∧ (∀ (x : St) (a : Nat) (f : Nat → Option Nat), (x.setBR a f).PL = x.PL) ∧ (∀ (x : St) (a : Nat) (f : Nat → Option Nat), (x.setBR a f).PK = x.PK) ∧ (∀ (x : St) (a : Nat) (f : Nat → Option Nat), (x.setBR a f).MF = x.MF) ∧ (∀ (x : St) (a : Nat) (f : Nat → Option Nat), (x.setBR a f).BN = x.BN) ∧ (∀ (x : St) (a : Nat) (f : Nat → Option Nat), (x.setBR a f).BR = va_up x.BR a f) ∧ (∀ (x : St) (q : Nat), (x.addM q).FC = x.FC) ∧ (∀ (x : St) (q : Nat), (x.addM q).FR = x.FR) ∧ (∀ (x : St) (q : Nat), (x.addM q).AC = x.AC) ∧ (∀ (x : St) (q : Nat), (x.addM q).FH = x.FH) ∧ (∀ (x : St) (q : Nat), (x.addM q).FL = x.FL) ∧ (∀ (x : St) (q : Nat), (x.addM q).LD = x.LD) ∧ (∀ (x : St) (q : Nat), (x.addM q).FM = x.FM) ∧ (∀ (x : St) (q : Nat), (x.addM q).AM = x.AM) ∧ (∀ (x : St) (q : Nat), (x.addM q).OU = x.OU) ∧ (∀ (x : St) (q : Nat), (x.addM q).PL = x.PL ++ [q]) ∧ (∀ (x : St) (q : Nat), (x.addM q).PK = va_up x.PK q true) ∧ (∀ (x : St) (q : Nat), (x.addM q).MF = va_up x.MF q (fun _ => 0)) ∧ (∀ (x : St) (q : Nat), (x.addM q).BN = x.BN) ∧ (∀ (x : St) (q : Nat), (x.addM q).BR = x.BR) ∧ (∀ (x : St) (q n : Nat), (x.addB q n).FC = x.FC) ∧ (∀ (x : St) (q n : Nat), (x.addB q n).FR = x.FR) ∧ (∀ (x : St) (q n : Nat), (x.addB q n).AC = x.AC) ∧ (∀ (x : St) (q n : Nat), (x.addB q n).FH = x.FH) ∧ (∀ (x : St) (q n : Nat), (x.addB q n).FL = x.FL) ∧ (∀ (x : St) (q n : Nat), (x.addB q n).LD = x.LD) ∧ (∀ (x : St) (q n : Nat), (x.addB q n).FM = x.FM) ∧ (∀ (x : St) (q n : Nat), (x.addB q n).AM = x.AM) ∧ (∀ (x : St) (q n : Nat), (x.addB q n).OU = x.OU) ∧ (∀ (x : St) (q n : Nat), (x.addB q n).PL = x.PL ++ [q]) ∧ (∀ (x : St) (q n : Nat), (x.addB q n).PK = va_up x.PK q false) ∧ (∀ (x : St) (q n : Nat), (x.addB q n).MF = x.MF) ∧ (∀ (x : St) (q n : Nat), (x.addB q n).BN = va_up x.BN q n) ∧ (∀ (x : St) (q n : Nat), (x.addB q n).BR = va_up x.BR q (fun _ => none)) := ⟨St.FC_setFC, St.FR_setFC, St.AC_setFC, St.FH_setFC, St.FL_setFC, St.LD_setFC, St.FM_setFC, St.AM_setFC, St.OU_setFC, St.PL_setFC, St.PK_setFC, St.MF_setFC, St.BN_setFC, St.BR_setFC, St.FC_setFR, St.FR_setFR, St.AC_setFR, St.FH_setFR, St.FL_setFR, St.LD_setFR, St.FM_setFR, St.AM_setFR, St.OU_setFR, St.PL_setFR, St.PK_setFR, St.MF_setFR, St.BN_setFR, St.BR_setFR, St.FC_setAC, St.FR_setAC, St.AC_setAC, St.FH_setAC, St.FL_setAC, St.LD_setAC, St.FM_setAC, St.AM_setAC, St.OU_setAC, St.PL_setAC, St.PK_setAC, St.MF_setAC, St.BN_setAC, St.BR_setAC, St.FC_setFH, St.FR_setFH, St.AC_setFH, St.FH_setFH, St.FL_setFH, St.LD_setFH, St.FM_setFH, St.AM_setFH, St.OU_setFH, St.PL_setFH, St.PK_setFH, St.MF_setFH, St.BN_setFH, St.BR_setFH, St.FC_setFL, St.FR_setFL, St.AC_setFL, St.FH_setFL, St.FL_setFL, St.LD_setFL, St.FM_setFL, St.AM_setFL, St.OU_setFL, St.PL_setFL, St.PK_setFL, St.MF_setFL, St.BN_setFL, St.BR_setFL, St.FC_setLD, St.FR_setLD, St.AC_setLD, St.FH_setLD, St.FL_setLD, St.LD_setLD, St.FM_setLD, St.AM_setLD, St.OU_setLD, St.PL_setLD, St.PK_setLD, St.MF_setLD, St.BN_setLD, St.BR_setLD, St.FC_setFM, St.FR_setFM, St.AC_setFM, St.FH_setFM, St.FL_setFM, St.LD_setFM, St.FM_setFM, St.AM_setFM, St.OU_setFM, St.PL_setFM, St.PK_setFM, St.MF_setFM, St.BN_setFM, St.BR_setFM, St.FC_setAM, St.FR_setAM, St.AC_setAM, St.FH_setAM, St.FL_setAM, St.LD_setAM, St.FM_setAM, St.AM_setAM, St.OU_setAM, St.PL_setAM, St.PK_setAM, St.MF_setAM, St.BN_setAM, St.BR_setAM, St.FC_setOU, St.FR_setOU, St.AC_setOU, St.FH_setOU, St.FL_setOU, St.LD_setOU, St.FM_setOU, St.AM_setOU, St.OU_setOU, St.PL_setOU, St.PK_setOU, St.MF_setOU, St.BN_setOU, St.BR_setOU, St.FC_setMF, St.FR_setMF, St.AC_setMF, St.FH_setMF, St.FL_setMF, St.LD_setMF, St.FM_setMF, St.AM_setMF, St.OU_setMF, St.PL_setMF, St.PK_setMF, St.MF_setMF, St.BN_setMF, St.BR_setMF, St.FC_setBR, St.FR_setBR, St.AC_setBR, St.FH_setBR, St.FL_setBR, St.LD_setBR, St.FM_setBR, St.AM_setBR, St.OU_setBR, St.PL_setBR, St.PK_setBR, St.MF_setBR, St.BN_setBR, St.BR_setBR, St.FC_addM, St.FR_addM, St.AC_addM, St.FH_addM, St.FL_addM, St.LD_addM, St.FM_addM, St.AM_addM, St.OU_addM, St.PL_addM, St.PK_addM, St.MF_addM, St.BN_addM, St.BR_addM, St.FC_addB, St.FR_addB, St.AC_addB, St.FH_addB, St.FL_addB, St.LD_addB, St.FM_addB, St.AM_addB, St.OU_addB, St.PL_addB, St.PK_addB, St.MF_addB, St.BN_addB, St.BR_addB⟩
/-! ===== the world ===== -/
abbrev gET : Type := va_G × (Nat → Nat) × (Nat → ClassId) × Nat × (Nat → Nat)
def gE : Type := gET
def gE.D (E : gE) : va_G := (show gET from E).1
def gE.ad (E : gE) : Nat → Nat := (show gET from E).2.1
def gE.cid (E : gE) : Nat → ClassId := (show gET from E).2.2.1
/-- the empty array that new lists share -/
def gE.z (E : gE) : Nat := (show gET from E).2.2.2.1
/-- the string constants' addresses -/
def gE.sa (E : gE) : Nat → Nat := (show gET from E).2.2.2.2
def gtys (E : gE) : List (ClassId × FieldType) := [(E.cid 0, .int), (E.cid 1, .boolean), (E.cid 2, .object RX0), (E.cid 3, .object RX1), (E.cid 4, .object "java/lang/Object")]
abbrev aD (E : gE) : Nat := E.ad 0
abbrev aN (E : gE) : Nat := E.ad 1
abbrev aCs (E : gE) : Nat := E.ad 2
abbrev aHs (E : gE) : Nat := E.ad 3
abbrev aC (E : gE) (i : Nat) : Nat := E.ad (4 + i)
abbrev aR (E : gE) (i : Nat) : Nat := E.ad (8 + i)
/-- the int arrays of cache i: 0 states, 1 values, 2 victimValues, 3 useOrder -/
abbrev aA (E : gE) (i a : Nat) : Nat := E.ad (12 + (4 * i + a))
abbrev aH (E : gE) (h : Nat) : Nat := E.ad (28 + h)
/-- lists: 0 to 15 the queues of the homes, 16 the messages on the way -/
abbrev aL (E : gE) (j : Nat) : Nat := E.ad (44 + j)
abbrev aY (E : gE) (r : Nat) : Nat := E.ad (61 + r)
def mlen (_ : Nat) : Nat := 4
/-- the law's own arrays: 0 now, 1 open, 2 written, 3 writes (booleans) -/
def mcid (r : Nat) : Nat := [0, 0, 0, 1].getD r 0
def eD (E : gE) : va_E := .inr (6, [.ref (aN E), .ref (aCs E), .ref (aHs E)])
def eN (E : gE) : va_E := .inr (4, [.ref (aL E 16)])
def eCs (E : gE) : va_E := .inl (E.cid 2, 4, .inr (.inr (.inr (.inr (fun i => some (aC E i))))))
def eHs (E : gE) : va_E := .inl (E.cid 3, 16, .inr (.inr (.inr (.inr (fun h => some (aH E h))))))
def eC (E : gE) (i : Nat) (f : Nat → Int32) : va_E := .inr (1, [.int (nI i), .ref (aN E), .ref (aR E i), .ref (aA E i 0), .ref (aA E i 1), .ref (aA E i 2), .ref (aA E i 3), .int (f 7), .int (f 8), .int (f 9), .int (f 10), .int (f 11), .int (f 12), .int (f 13)])
def eR (f : Nat → Int32) : va_E := .inr (5, [.int (f 0), .int (f 1), .int (f 2), .int (f 3), .int (f 4), .int (f 5), .int (f 6)])
def ealen (k : Nat) : Nat := if k % 4 = 3 then 4 else 16
def eA (E : gE) (k : Nat) (f : Nat → Int32) : va_E := .inl (E.cid 0, ealen k, .inl f)
def eH (E : gE) (h : Nat) (f : Nat → Int32) : va_E := .inr (2, [.int (nI h), .ref (aN E), .ref (aL E h), .int (f 3), .int (f 4), .int (f 5), .int (f 6), .int (f 7), .int (f 8)])
def eL (E : gE) (f : Nat → Int32) (d : Option Nat) : va_E := .inr (0, [.int (f 0), .ref (d.getD E.z), .int (f 2)])
def eY (E : gE) (r : Nat) (f : Nat → Int32) : va_E := .inl (E.cid (mcid r), mlen r, .inl f)
def ent (E : gE) (x : St) (k : Nat) : va_E :=
  if k < 4 then (if k = 0 then eD E else if k = 1 then eN E else if k = 2 then eCs E else eHs E)
  else if k < 8 then eC E (k - 4) (x.FC (k - 4))
  else if k < 12 then eR (x.FR (k - 8))
  else if k < 28 then eA E (k - 12) (x.AC ((k - 12) / 4) ((k - 12) % 4))
  else if k < 44 then eH E (k - 28) (x.FH (k - 28))
  else if k < 61 then eL E (x.FL (k - 44)) (x.LD (k - 44))
  else eY E (k - 61) (x.AM (k - 61))
def eMs (f : Nat → Int32) : va_E := .inr (3, [.int (f 0), .int (f 1), .int (f 2), .int (f 3), .int (f 4), .int (f 5), .int (f 6)])
def eB (E : gE) (n : Nat) (f : Nat → Option Nat) : va_E := .inl (E.cid 4, n, .inr (.inr (.inr (.inr f))))
def pf (E : gE) (x : St) (a : Nat) : va_E := if x.PK a = true then eMs (x.MF a) else eB E (x.BN a) (x.BR a)
def wF (E : gE) (x : St) : va_W := (List.range 65).map (fun k => (E.ad k, ent E x k))
def wd (E : gE) (x : St) : va_W := wF E x ++ va_pl x.PL (pf E x)
/-- a cell is there -/
def wat (E : gE) (x : St) (a : Nat) (e : va_E) : Prop := ∃ k : Nat, (wd E x)[k]? = some (a, e)
/-- a cell is there, and with another content the world is that of y -/
def wsg (E : gE) (x : St) (a : Nat) (e e' : va_E) (y : St) : Prop := ∀ A : Nat → Prop, va_D A (wd E x) → ∃ k : Nat, (wd E x)[k]? = some (a, e) ∧ (wd E x).set k (a, e') = wd E y
theorem wF_len (E : gE) (x : St) : (wF E x).length = 65 := by simp [wF]
theorem wd_at {E : gE} {x : St} {p : Nat} (hp : p < 65) : (wd E x)[p]? = some (E.ad p, ent E x p) := by
  unfold wd
  rw [List.getElem?_append_left (by rw [wF_len]; exact hp)]
  simp [wF, hp]
theorem wat_e {E : gE} {x : St} {p : Nat} {e : va_E} (hp : p < 65) (he : ent E x p = e) : wat E x (E.ad p) e := ⟨p, by rw [wd_at hp, he]⟩
theorem wsg_e {E : gE} {x y : St} {p : Nat} {e e' : va_E} (hp : p < 65) (he : ent E x p = e) (he' : ent E y p = e') (ho : ∀ k, k < 65 → k ≠ p → ent E y k = ent E x k) (hpl : va_pl y.PL (pf E y) = va_pl x.PL (pf E x)) : wsg E x (E.ad p) e e' y := by
  intro A hD
  refine ⟨p, by rw [wd_at hp, he], ?_⟩
  unfold wd
  rw [List.set_append_left _ _ (by rw [wF_len]; exact hp), hpl]
  congr 1
  apply List.ext_getElem?
  intro j
  by_cases hj : j < 65
  · by_cases hjp : j = p
    · subst hjp
      rw [List.getElem?_set_self (by rw [wF_len]; exact hj)]
      simp [wF, hj, he']
    · rw [List.getElem?_set_ne (Ne.symm hjp)]
      simp [wF, hj, ho j hj hjp]
  · rw [List.getElem?_eq_none (by simp [wF]; omega), List.getElem?_eq_none (by simp [wF]; omega)]
theorem wat_p {E : gE} {x : St} {a : Nat} {e : va_E} (h : a ∈ x.PL) (he : pf E x a = e) : wat E x a e := by
  obtain ⟨k, hk⟩ := va_pl_get (X := wF E x) (f := pf E x) h
  exact ⟨k, by rw [← he]; exact hk⟩
theorem wsg_p {E : gE} {x y : St} {a : Nat} {e e' : va_E} (h : a ∈ x.PL) (he : pf E x a = e) (hF : wF E y = wF E x) (hL : y.PL = x.PL) (hp : ∀ b, pf E y b = va_up (pf E x) a e' b) : wsg E x a e e' y := by
  intro A hD
  obtain ⟨k, hk⟩ := va_pl_get (X := wF E x) (f := pf E x) h
  refine ⟨k, by rw [← he]; exact hk, ?_⟩
  unfold wd
  rw [va_pl_set hD h hk, hF, hL, va_pl_congr hp]

theorem ent_D (E : gE) (x : St)  : ent E x (0) = eD E := by
  rfl
theorem ent_N (E : gE) (x : St)  : ent E x (1) = eN E := by
  rfl
theorem ent_Cs (E : gE) (x : St)  : ent E x (2) = eCs E := by
  rfl
theorem ent_Hs (E : gE) (x : St)  : ent E x (3) = eHs E := by
  rfl
theorem ent_C (E : gE) (x : St) {i : Nat} (hi : i < 4) : ent E x (4 + i) = eC E i (x.FC i) := by
  unfold ent
  rw [if_neg (by omega), if_pos (by omega)]
  rw [show 4 + i - 4 = i by omega]
theorem ent_R (E : gE) (x : St) {i : Nat} (hi : i < 4) : ent E x (8 + i) = eR (x.FR i) := by
  unfold ent
  rw [if_neg (by omega), if_neg (by omega), if_pos (by omega)]
  rw [show 8 + i - 8 = i by omega]
theorem ent_A (E : gE) (x : St) {i a : Nat} (hi : i < 4) (ha : a < 4) : ent E x (12 + (4 * i + a)) = eA E (4 * i + a) (x.AC i a) := by
  unfold ent
  rw [if_neg (by omega), if_neg (by omega), if_neg (by omega), if_pos (by omega)]
  rw [show 12 + (4 * i + a) - 12 = 4 * i + a by omega, show (4 * i + a) / 4 = i by omega, show (4 * i + a) % 4 = a by omega]
theorem ent_H (E : gE) (x : St) {i : Nat} (hi : i < 16) : ent E x (28 + i) = eH E i (x.FH i) := by
  unfold ent
  rw [if_neg (by omega), if_neg (by omega), if_neg (by omega), if_neg (by omega), if_pos (by omega)]
  rw [show 28 + i - 28 = i by omega]
theorem ent_L (E : gE) (x : St) {i : Nat} (hi : i < 17) : ent E x (44 + i) = eL E (x.FL i) (x.LD i) := by
  unfold ent
  rw [if_neg (by omega), if_neg (by omega), if_neg (by omega), if_neg (by omega), if_neg (by omega), if_pos (by omega)]
  rw [show 44 + i - 44 = i by omega]
theorem ent_Y (E : gE) (x : St) {i : Nat} (hi : i < 4) : ent E x (61 + i) = eY E i (x.AM i) := by
  unfold ent
  rw [if_neg (by omega), if_neg (by omega), if_neg (by omega), if_neg (by omega), if_neg (by omega), if_neg (by omega)]
  rw [show 61 + i - 61 = i by omega]
/-! a change of one object leaves the others -/
theorem eo_FC (E : gE) (x : St) {i m : Nat} {v : Int32} (hi : i < 4) : ∀ k, k < 65 → k ≠ 4 + i → ent E (x.setFC i m v) k = ent E x k := by
  intro k hk hn
  unfold ent
  repeat' split
  all_goals first | rfl | skip
  all_goals (simp only [St.setFC, St.mk, St.FC, St.FR, St.AC, St.FH, St.FL, St.LD, St.FM, St.AM, St.OU, u2]; first | done | (rw [va_up_ne _ _ (by omega)]) | (exfalso; omega))
theorem eo_FR (E : gE) (x : St) {i m : Nat} {v : Int32} (hi : i < 4) : ∀ k, k < 65 → k ≠ 8 + i → ent E (x.setFR i m v) k = ent E x k := by
  intro k hk hn
  unfold ent
  repeat' split
  all_goals first | rfl | skip
  all_goals (simp only [St.setFR, St.mk, St.FC, St.FR, St.AC, St.FH, St.FL, St.LD, St.FM, St.AM, St.OU, u2]; first | done | (rw [va_up_ne _ _ (by omega)]) | (exfalso; omega))
theorem eo_AC (E : gE) (x : St) {i a : Nat} {f : Nat → Int32} (hi : i < 4) (ha : a < 4) : ∀ k, k < 65 → k ≠ 12 + (4 * i + a) → ent E (x.setAC i a f) k = ent E x k := by
  intro k hk hn
  unfold ent
  repeat' split
  all_goals first | rfl | skip
  all_goals (simp only [St.setAC, St.mk, St.AC])
  by_cases h : (k - 12) / 4 = i
  · rw [h, va_up_self, va_up_ne _ _ (by omega)]
  · rw [va_up_ne _ _ h]
theorem eo_FH (E : gE) (x : St) {i m : Nat} {v : Int32} (hi : i < 16) : ∀ k, k < 65 → k ≠ 28 + i → ent E (x.setFH i m v) k = ent E x k := by
  intro k hk hn
  unfold ent
  repeat' split
  all_goals first | rfl | skip
  all_goals (simp only [St.setFH, St.mk, St.FC, St.FR, St.AC, St.FH, St.FL, St.LD, St.FM, St.AM, St.OU, u2]; first | done | (rw [va_up_ne _ _ (by omega)]) | (exfalso; omega))
theorem eo_FL (E : gE) (x : St) {i m : Nat} {v : Int32} (hi : i < 17) : ∀ k, k < 65 → k ≠ 44 + i → ent E (x.setFL i m v) k = ent E x k := by
  intro k hk hn
  unfold ent
  repeat' split
  all_goals first | rfl | skip
  all_goals (simp only [St.setFL, St.mk, St.FC, St.FR, St.AC, St.FH, St.FL, St.LD, St.FM, St.AM, St.OU, u2]; first | done | (rw [va_up_ne _ _ (by omega)]) | (exfalso; omega))
theorem eo_LD (E : gE) (x : St) {i : Nat} {v : Option Nat} (hi : i < 17) : ∀ k, k < 65 → k ≠ 44 + i → ent E (x.setLD i v) k = ent E x k := by
  intro k hk hn
  unfold ent
  repeat' split
  all_goals first | rfl | skip
  all_goals (simp only [St.setLD, St.mk, St.FC, St.FR, St.AC, St.FH, St.FL, St.LD, St.FM, St.AM, St.OU, u2]; first | done | (rw [va_up_ne _ _ (by omega)]) | (exfalso; omega))
theorem eo_AM (E : gE) (x : St) {i : Nat} {f : Nat → Int32} (hi : i < 4) : ∀ k, k < 65 → k ≠ 61 + i → ent E (x.setAM i f) k = ent E x k := by
  intro k hk hn
  unfold ent
  repeat' split
  all_goals first | rfl | skip
  all_goals (simp only [St.setAM, St.mk, St.FC, St.FR, St.AC, St.FH, St.FL, St.LD, St.FM, St.AM, St.OU, u2]; first | done | (rw [va_up_ne _ _ (by omega)]) | (exfalso; omega))
/-! reading and writing, by kinds: wat, wsg -/
theorem wat_D (E : gE) (x : St)  : wat E x (E.ad (0)) (eD E) := wat_e (by omega) (ent_D E x )
theorem wat_N (E : gE) (x : St)  : wat E x (E.ad (1)) (eN E) := wat_e (by omega) (ent_N E x )
theorem wat_Cs (E : gE) (x : St)  : wat E x (E.ad (2)) (eCs E) := wat_e (by omega) (ent_Cs E x )
theorem wat_Hs (E : gE) (x : St)  : wat E x (E.ad (3)) (eHs E) := wat_e (by omega) (ent_Hs E x )
theorem wat_C (E : gE) (x : St) {i : Nat} (hi : i < 4) : wat E x (E.ad (4 + i)) (eC E i (x.FC i)) := wat_e (by omega) (ent_C E x hi)
theorem wat_R (E : gE) (x : St) {i : Nat} (hi : i < 4) : wat E x (E.ad (8 + i)) (eR (x.FR i)) := wat_e (by omega) (ent_R E x hi)
theorem wat_A (E : gE) (x : St) {i a : Nat} (hi : i < 4) (ha : a < 4) : wat E x (E.ad (12 + (4 * i + a))) (eA E (4 * i + a) (x.AC i a)) := wat_e (by omega) (ent_A E x hi ha)
theorem wat_H (E : gE) (x : St) {i : Nat} (hi : i < 16) : wat E x (E.ad (28 + i)) (eH E i (x.FH i)) := wat_e (by omega) (ent_H E x hi)
theorem wat_L (E : gE) (x : St) {i : Nat} (hi : i < 17) : wat E x (E.ad (44 + i)) (eL E (x.FL i) (x.LD i)) := wat_e (by omega) (ent_L E x hi)
theorem wat_Y (E : gE) (x : St) {i : Nat} (hi : i < 4) : wat E x (E.ad (61 + i)) (eY E i (x.AM i)) := wat_e (by omega) (ent_Y E x hi)
theorem ws_C7 (E : gE) (x : St) {i : Nat} (hi : i < 4) (v : Int32) : wsg E x (aC E i) (eC E i (x.FC i)) (.inr (1, [.int (nI i), .ref (aN E), .ref (aR E i), .ref (aA E i 0), .ref (aA E i 1), .ref (aA E i 2), .ref (aA E i 3), .int v, .int (x.FC i 8), .int (x.FC i 9), .int (x.FC i 10), .int (x.FC i 11), .int (x.FC i 12), .int (x.FC i 13)])) (x.setFC i 7 v) := wsg_e (by omega) (ent_C E x hi) (by rw [ent_C E _ hi]; simp [eC, St.setFC, St.mk, St.FC, va_up]) (eo_FC E x hi) rfl
theorem ws_C8 (E : gE) (x : St) {i : Nat} (hi : i < 4) (v : Int32) : wsg E x (aC E i) (eC E i (x.FC i)) (.inr (1, [.int (nI i), .ref (aN E), .ref (aR E i), .ref (aA E i 0), .ref (aA E i 1), .ref (aA E i 2), .ref (aA E i 3), .int (x.FC i 7), .int v, .int (x.FC i 9), .int (x.FC i 10), .int (x.FC i 11), .int (x.FC i 12), .int (x.FC i 13)])) (x.setFC i 8 v) := wsg_e (by omega) (ent_C E x hi) (by rw [ent_C E _ hi]; simp [eC, St.setFC, St.mk, St.FC, va_up]) (eo_FC E x hi) rfl
theorem ws_C9 (E : gE) (x : St) {i : Nat} (hi : i < 4) (v : Int32) : wsg E x (aC E i) (eC E i (x.FC i)) (.inr (1, [.int (nI i), .ref (aN E), .ref (aR E i), .ref (aA E i 0), .ref (aA E i 1), .ref (aA E i 2), .ref (aA E i 3), .int (x.FC i 7), .int (x.FC i 8), .int v, .int (x.FC i 10), .int (x.FC i 11), .int (x.FC i 12), .int (x.FC i 13)])) (x.setFC i 9 v) := wsg_e (by omega) (ent_C E x hi) (by rw [ent_C E _ hi]; simp [eC, St.setFC, St.mk, St.FC, va_up]) (eo_FC E x hi) rfl
theorem ws_C10 (E : gE) (x : St) {i : Nat} (hi : i < 4) (v : Int32) : wsg E x (aC E i) (eC E i (x.FC i)) (.inr (1, [.int (nI i), .ref (aN E), .ref (aR E i), .ref (aA E i 0), .ref (aA E i 1), .ref (aA E i 2), .ref (aA E i 3), .int (x.FC i 7), .int (x.FC i 8), .int (x.FC i 9), .int v, .int (x.FC i 11), .int (x.FC i 12), .int (x.FC i 13)])) (x.setFC i 10 v) := wsg_e (by omega) (ent_C E x hi) (by rw [ent_C E _ hi]; simp [eC, St.setFC, St.mk, St.FC, va_up]) (eo_FC E x hi) rfl
theorem ws_C11 (E : gE) (x : St) {i : Nat} (hi : i < 4) (v : Int32) : wsg E x (aC E i) (eC E i (x.FC i)) (.inr (1, [.int (nI i), .ref (aN E), .ref (aR E i), .ref (aA E i 0), .ref (aA E i 1), .ref (aA E i 2), .ref (aA E i 3), .int (x.FC i 7), .int (x.FC i 8), .int (x.FC i 9), .int (x.FC i 10), .int v, .int (x.FC i 12), .int (x.FC i 13)])) (x.setFC i 11 v) := wsg_e (by omega) (ent_C E x hi) (by rw [ent_C E _ hi]; simp [eC, St.setFC, St.mk, St.FC, va_up]) (eo_FC E x hi) rfl
theorem ws_C12 (E : gE) (x : St) {i : Nat} (hi : i < 4) (v : Int32) : wsg E x (aC E i) (eC E i (x.FC i)) (.inr (1, [.int (nI i), .ref (aN E), .ref (aR E i), .ref (aA E i 0), .ref (aA E i 1), .ref (aA E i 2), .ref (aA E i 3), .int (x.FC i 7), .int (x.FC i 8), .int (x.FC i 9), .int (x.FC i 10), .int (x.FC i 11), .int v, .int (x.FC i 13)])) (x.setFC i 12 v) := wsg_e (by omega) (ent_C E x hi) (by rw [ent_C E _ hi]; simp [eC, St.setFC, St.mk, St.FC, va_up]) (eo_FC E x hi) rfl
theorem ws_C13 (E : gE) (x : St) {i : Nat} (hi : i < 4) (v : Int32) : wsg E x (aC E i) (eC E i (x.FC i)) (.inr (1, [.int (nI i), .ref (aN E), .ref (aR E i), .ref (aA E i 0), .ref (aA E i 1), .ref (aA E i 2), .ref (aA E i 3), .int (x.FC i 7), .int (x.FC i 8), .int (x.FC i 9), .int (x.FC i 10), .int (x.FC i 11), .int (x.FC i 12), .int v])) (x.setFC i 13 v) := wsg_e (by omega) (ent_C E x hi) (by rw [ent_C E _ hi]; simp [eC, St.setFC, St.mk, St.FC, va_up]) (eo_FC E x hi) rfl
theorem ws_R0 (E : gE) (x : St) {i : Nat} (hi : i < 4) (v : Int32) : wsg E x (aR E i) (eR (x.FR i)) (.inr (5, [.int v, .int (x.FR i 1), .int (x.FR i 2), .int (x.FR i 3), .int (x.FR i 4), .int (x.FR i 5), .int (x.FR i 6)])) (x.setFR i 0 v) := wsg_e (by omega) (ent_R E x hi) (by rw [ent_R E _ hi]; simp [eR, St.setFR, St.mk, St.FR, va_up]) (eo_FR E x hi) rfl
theorem ws_R1 (E : gE) (x : St) {i : Nat} (hi : i < 4) (v : Int32) : wsg E x (aR E i) (eR (x.FR i)) (.inr (5, [.int (x.FR i 0), .int v, .int (x.FR i 2), .int (x.FR i 3), .int (x.FR i 4), .int (x.FR i 5), .int (x.FR i 6)])) (x.setFR i 1 v) := wsg_e (by omega) (ent_R E x hi) (by rw [ent_R E _ hi]; simp [eR, St.setFR, St.mk, St.FR, va_up]) (eo_FR E x hi) rfl
theorem ws_R2 (E : gE) (x : St) {i : Nat} (hi : i < 4) (v : Int32) : wsg E x (aR E i) (eR (x.FR i)) (.inr (5, [.int (x.FR i 0), .int (x.FR i 1), .int v, .int (x.FR i 3), .int (x.FR i 4), .int (x.FR i 5), .int (x.FR i 6)])) (x.setFR i 2 v) := wsg_e (by omega) (ent_R E x hi) (by rw [ent_R E _ hi]; simp [eR, St.setFR, St.mk, St.FR, va_up]) (eo_FR E x hi) rfl
theorem ws_R3 (E : gE) (x : St) {i : Nat} (hi : i < 4) (v : Int32) : wsg E x (aR E i) (eR (x.FR i)) (.inr (5, [.int (x.FR i 0), .int (x.FR i 1), .int (x.FR i 2), .int v, .int (x.FR i 4), .int (x.FR i 5), .int (x.FR i 6)])) (x.setFR i 3 v) := wsg_e (by omega) (ent_R E x hi) (by rw [ent_R E _ hi]; simp [eR, St.setFR, St.mk, St.FR, va_up]) (eo_FR E x hi) rfl
theorem ws_R4 (E : gE) (x : St) {i : Nat} (hi : i < 4) (v : Int32) : wsg E x (aR E i) (eR (x.FR i)) (.inr (5, [.int (x.FR i 0), .int (x.FR i 1), .int (x.FR i 2), .int (x.FR i 3), .int v, .int (x.FR i 5), .int (x.FR i 6)])) (x.setFR i 4 v) := wsg_e (by omega) (ent_R E x hi) (by rw [ent_R E _ hi]; simp [eR, St.setFR, St.mk, St.FR, va_up]) (eo_FR E x hi) rfl
theorem ws_R5 (E : gE) (x : St) {i : Nat} (hi : i < 4) (v : Int32) : wsg E x (aR E i) (eR (x.FR i)) (.inr (5, [.int (x.FR i 0), .int (x.FR i 1), .int (x.FR i 2), .int (x.FR i 3), .int (x.FR i 4), .int v, .int (x.FR i 6)])) (x.setFR i 5 v) := wsg_e (by omega) (ent_R E x hi) (by rw [ent_R E _ hi]; simp [eR, St.setFR, St.mk, St.FR, va_up]) (eo_FR E x hi) rfl
theorem ws_R6 (E : gE) (x : St) {i : Nat} (hi : i < 4) (v : Int32) : wsg E x (aR E i) (eR (x.FR i)) (.inr (5, [.int (x.FR i 0), .int (x.FR i 1), .int (x.FR i 2), .int (x.FR i 3), .int (x.FR i 4), .int (x.FR i 5), .int v])) (x.setFR i 6 v) := wsg_e (by omega) (ent_R E x hi) (by rw [ent_R E _ hi]; simp [eR, St.setFR, St.mk, St.FR, va_up]) (eo_FR E x hi) rfl
theorem ws_H3 (E : gE) (x : St) {i : Nat} (hi : i < 16) (v : Int32) : wsg E x (aH E i) (eH E i (x.FH i)) (.inr (2, [.int (nI i), .ref (aN E), .ref (aL E i), .int v, .int (x.FH i 4), .int (x.FH i 5), .int (x.FH i 6), .int (x.FH i 7), .int (x.FH i 8)])) (x.setFH i 3 v) := wsg_e (by omega) (ent_H E x hi) (by rw [ent_H E _ hi]; simp [eH, St.setFH, St.mk, St.FH, va_up]) (eo_FH E x hi) rfl
theorem ws_H4 (E : gE) (x : St) {i : Nat} (hi : i < 16) (v : Int32) : wsg E x (aH E i) (eH E i (x.FH i)) (.inr (2, [.int (nI i), .ref (aN E), .ref (aL E i), .int (x.FH i 3), .int v, .int (x.FH i 5), .int (x.FH i 6), .int (x.FH i 7), .int (x.FH i 8)])) (x.setFH i 4 v) := wsg_e (by omega) (ent_H E x hi) (by rw [ent_H E _ hi]; simp [eH, St.setFH, St.mk, St.FH, va_up]) (eo_FH E x hi) rfl
theorem ws_H5 (E : gE) (x : St) {i : Nat} (hi : i < 16) (v : Int32) : wsg E x (aH E i) (eH E i (x.FH i)) (.inr (2, [.int (nI i), .ref (aN E), .ref (aL E i), .int (x.FH i 3), .int (x.FH i 4), .int v, .int (x.FH i 6), .int (x.FH i 7), .int (x.FH i 8)])) (x.setFH i 5 v) := wsg_e (by omega) (ent_H E x hi) (by rw [ent_H E _ hi]; simp [eH, St.setFH, St.mk, St.FH, va_up]) (eo_FH E x hi) rfl
theorem ws_H6 (E : gE) (x : St) {i : Nat} (hi : i < 16) (v : Int32) : wsg E x (aH E i) (eH E i (x.FH i)) (.inr (2, [.int (nI i), .ref (aN E), .ref (aL E i), .int (x.FH i 3), .int (x.FH i 4), .int (x.FH i 5), .int v, .int (x.FH i 7), .int (x.FH i 8)])) (x.setFH i 6 v) := wsg_e (by omega) (ent_H E x hi) (by rw [ent_H E _ hi]; simp [eH, St.setFH, St.mk, St.FH, va_up]) (eo_FH E x hi) rfl
theorem ws_H7 (E : gE) (x : St) {i : Nat} (hi : i < 16) (v : Int32) : wsg E x (aH E i) (eH E i (x.FH i)) (.inr (2, [.int (nI i), .ref (aN E), .ref (aL E i), .int (x.FH i 3), .int (x.FH i 4), .int (x.FH i 5), .int (x.FH i 6), .int v, .int (x.FH i 8)])) (x.setFH i 7 v) := wsg_e (by omega) (ent_H E x hi) (by rw [ent_H E _ hi]; simp [eH, St.setFH, St.mk, St.FH, va_up]) (eo_FH E x hi) rfl
theorem ws_H8 (E : gE) (x : St) {i : Nat} (hi : i < 16) (v : Int32) : wsg E x (aH E i) (eH E i (x.FH i)) (.inr (2, [.int (nI i), .ref (aN E), .ref (aL E i), .int (x.FH i 3), .int (x.FH i 4), .int (x.FH i 5), .int (x.FH i 6), .int (x.FH i 7), .int v])) (x.setFH i 8 v) := wsg_e (by omega) (ent_H E x hi) (by rw [ent_H E _ hi]; simp [eH, St.setFH, St.mk, St.FH, va_up]) (eo_FH E x hi) rfl
theorem ws_A (E : gE) (x : St) {i a : Nat} (hi : i < 4) (ha : a < 4) (f : Nat → Int32) : wsg E x (aA E i a) (eA E (4 * i + a) (x.AC i a)) (eA E (4 * i + a) f) (x.setAC i a f) := wsg_e (by omega) (ent_A E x hi ha) (by rw [ent_A E _ hi ha]; simp [St.setAC, St.mk, St.AC, va_up]) (eo_AC E x hi ha) rfl
theorem ws_L0 (E : gE) (x : St) {i : Nat} (hi : i < 17) (v : Int32) : wsg E x (aL E i) (eL E (x.FL i) (x.LD i)) (.inr (0, [.int v, .ref ((x.LD i).getD E.z), .int (x.FL i 2)])) (x.setFL i 0 v) := wsg_e (by omega) (ent_L E x hi) (by rw [ent_L E _ hi]; simp [eL, St.setFL, St.mk, St.FL, St.LD, va_up]) (eo_FL E x hi) rfl
theorem ws_L2 (E : gE) (x : St) {i : Nat} (hi : i < 17) (v : Int32) : wsg E x (aL E i) (eL E (x.FL i) (x.LD i)) (.inr (0, [.int (x.FL i 0), .ref ((x.LD i).getD E.z), .int v])) (x.setFL i 2 v) := wsg_e (by omega) (ent_L E x hi) (by rw [ent_L E _ hi]; simp [eL, St.setFL, St.mk, St.FL, St.LD, va_up]) (eo_FL E x hi) rfl
theorem ws_L1 (E : gE) (x : St) {i : Nat} (hi : i < 17) (a : Nat) : wsg E x (aL E i) (eL E (x.FL i) (x.LD i)) (.inr (0, [.int (x.FL i 0), .ref a, .int (x.FL i 2)])) (x.setLD i (some a)) := wsg_e (by omega) (ent_L E x hi) (by rw [ent_L E _ hi]; simp [eL, St.setLD, St.mk, St.FL, St.LD, va_up]) (eo_LD E x hi) rfl
theorem ws_Y (E : gE) (x : St) {i : Nat} (hi : i < 4) (f : Nat → Int32) : wsg E x (aY E i) (eY E i (x.AM i)) (eY E i f) (x.setAM i f) := wsg_e (by omega) (ent_Y E x hi) (by rw [ent_Y E _ hi]; simp [St.setAM, St.mk, St.AM, va_up]) (eo_AM E x hi) rfl
theorem wat_Ms (E : gE) (x : St) {a : Nat} (h : a ∈ x.PL) (hk : x.PK a = true) : wat E x a (eMs (x.MF a)) := wat_p h (by simp [pf, hk])
theorem wat_B (E : gE) (x : St) {a : Nat} (h : a ∈ x.PL) (hk : x.PK a = false) : wat E x a (eB E (x.BN a) (x.BR a)) := wat_p h (by simp [pf, hk])
theorem ws_Ms0 (E : gE) (x : St) {a : Nat} (h : a ∈ x.PL) (hk : x.PK a = true) (v : Int32) : wsg E x a (eMs (x.MF a)) (.inr (3, [.int v, .int (x.MF a 1), .int (x.MF a 2), .int (x.MF a 3), .int (x.MF a 4), .int (x.MF a 5), .int (x.MF a 6)])) (x.setMF a 0 v) := wsg_p h (by simp [pf, hk]) rfl rfl (fun b => by
  by_cases hb : b = a
  · subst hb
    rw [va_up_self]
    unfold pf
    rw [if_pos (show (x.setMF b 0 v).PK b = true from hk)]
    show eMs (u2 x.MF b 0 v b) = _
    simp [eMs, u2, va_up]
  · rw [va_up_ne _ _ hb]
    unfold pf
    show (if x.PK b = true then eMs (u2 x.MF a 0 v b) else eB E (x.BN b) (x.BR b)) = _
    rw [show u2 x.MF a 0 v b = x.MF b from va_up_ne _ _ hb])
theorem ws_Ms1 (E : gE) (x : St) {a : Nat} (h : a ∈ x.PL) (hk : x.PK a = true) (v : Int32) : wsg E x a (eMs (x.MF a)) (.inr (3, [.int (x.MF a 0), .int v, .int (x.MF a 2), .int (x.MF a 3), .int (x.MF a 4), .int (x.MF a 5), .int (x.MF a 6)])) (x.setMF a 1 v) := wsg_p h (by simp [pf, hk]) rfl rfl (fun b => by
  by_cases hb : b = a
  · subst hb
    rw [va_up_self]
    unfold pf
    rw [if_pos (show (x.setMF b 1 v).PK b = true from hk)]
    show eMs (u2 x.MF b 1 v b) = _
    simp [eMs, u2, va_up]
  · rw [va_up_ne _ _ hb]
    unfold pf
    show (if x.PK b = true then eMs (u2 x.MF a 1 v b) else eB E (x.BN b) (x.BR b)) = _
    rw [show u2 x.MF a 1 v b = x.MF b from va_up_ne _ _ hb])
theorem ws_Ms2 (E : gE) (x : St) {a : Nat} (h : a ∈ x.PL) (hk : x.PK a = true) (v : Int32) : wsg E x a (eMs (x.MF a)) (.inr (3, [.int (x.MF a 0), .int (x.MF a 1), .int v, .int (x.MF a 3), .int (x.MF a 4), .int (x.MF a 5), .int (x.MF a 6)])) (x.setMF a 2 v) := wsg_p h (by simp [pf, hk]) rfl rfl (fun b => by
  by_cases hb : b = a
  · subst hb
    rw [va_up_self]
    unfold pf
    rw [if_pos (show (x.setMF b 2 v).PK b = true from hk)]
    show eMs (u2 x.MF b 2 v b) = _
    simp [eMs, u2, va_up]
  · rw [va_up_ne _ _ hb]
    unfold pf
    show (if x.PK b = true then eMs (u2 x.MF a 2 v b) else eB E (x.BN b) (x.BR b)) = _
    rw [show u2 x.MF a 2 v b = x.MF b from va_up_ne _ _ hb])
theorem ws_Ms3 (E : gE) (x : St) {a : Nat} (h : a ∈ x.PL) (hk : x.PK a = true) (v : Int32) : wsg E x a (eMs (x.MF a)) (.inr (3, [.int (x.MF a 0), .int (x.MF a 1), .int (x.MF a 2), .int v, .int (x.MF a 4), .int (x.MF a 5), .int (x.MF a 6)])) (x.setMF a 3 v) := wsg_p h (by simp [pf, hk]) rfl rfl (fun b => by
  by_cases hb : b = a
  · subst hb
    rw [va_up_self]
    unfold pf
    rw [if_pos (show (x.setMF b 3 v).PK b = true from hk)]
    show eMs (u2 x.MF b 3 v b) = _
    simp [eMs, u2, va_up]
  · rw [va_up_ne _ _ hb]
    unfold pf
    show (if x.PK b = true then eMs (u2 x.MF a 3 v b) else eB E (x.BN b) (x.BR b)) = _
    rw [show u2 x.MF a 3 v b = x.MF b from va_up_ne _ _ hb])
theorem ws_Ms4 (E : gE) (x : St) {a : Nat} (h : a ∈ x.PL) (hk : x.PK a = true) (v : Int32) : wsg E x a (eMs (x.MF a)) (.inr (3, [.int (x.MF a 0), .int (x.MF a 1), .int (x.MF a 2), .int (x.MF a 3), .int v, .int (x.MF a 5), .int (x.MF a 6)])) (x.setMF a 4 v) := wsg_p h (by simp [pf, hk]) rfl rfl (fun b => by
  by_cases hb : b = a
  · subst hb
    rw [va_up_self]
    unfold pf
    rw [if_pos (show (x.setMF b 4 v).PK b = true from hk)]
    show eMs (u2 x.MF b 4 v b) = _
    simp [eMs, u2, va_up]
  · rw [va_up_ne _ _ hb]
    unfold pf
    show (if x.PK b = true then eMs (u2 x.MF a 4 v b) else eB E (x.BN b) (x.BR b)) = _
    rw [show u2 x.MF a 4 v b = x.MF b from va_up_ne _ _ hb])
theorem ws_Ms5 (E : gE) (x : St) {a : Nat} (h : a ∈ x.PL) (hk : x.PK a = true) (v : Int32) : wsg E x a (eMs (x.MF a)) (.inr (3, [.int (x.MF a 0), .int (x.MF a 1), .int (x.MF a 2), .int (x.MF a 3), .int (x.MF a 4), .int v, .int (x.MF a 6)])) (x.setMF a 5 v) := wsg_p h (by simp [pf, hk]) rfl rfl (fun b => by
  by_cases hb : b = a
  · subst hb
    rw [va_up_self]
    unfold pf
    rw [if_pos (show (x.setMF b 5 v).PK b = true from hk)]
    show eMs (u2 x.MF b 5 v b) = _
    simp [eMs, u2, va_up]
  · rw [va_up_ne _ _ hb]
    unfold pf
    show (if x.PK b = true then eMs (u2 x.MF a 5 v b) else eB E (x.BN b) (x.BR b)) = _
    rw [show u2 x.MF a 5 v b = x.MF b from va_up_ne _ _ hb])
theorem ws_Ms6 (E : gE) (x : St) {a : Nat} (h : a ∈ x.PL) (hk : x.PK a = true) (v : Int32) : wsg E x a (eMs (x.MF a)) (.inr (3, [.int (x.MF a 0), .int (x.MF a 1), .int (x.MF a 2), .int (x.MF a 3), .int (x.MF a 4), .int (x.MF a 5), .int v])) (x.setMF a 6 v) := wsg_p h (by simp [pf, hk]) rfl rfl (fun b => by
  by_cases hb : b = a
  · subst hb
    rw [va_up_self]
    unfold pf
    rw [if_pos (show (x.setMF b 6 v).PK b = true from hk)]
    show eMs (u2 x.MF b 6 v b) = _
    simp [eMs, u2, va_up]
  · rw [va_up_ne _ _ hb]
    unfold pf
    show (if x.PK b = true then eMs (u2 x.MF a 6 v b) else eB E (x.BN b) (x.BR b)) = _
    rw [show u2 x.MF a 6 v b = x.MF b from va_up_ne _ _ hb])
theorem ws_B (E : gE) (x : St) {a : Nat} (h : a ∈ x.PL) (hk : x.PK a = false) (f : Nat → Option Nat) : wsg E x a (eB E (x.BN a) (x.BR a)) (eB E (x.BN a) f) (x.setBR a f) := wsg_p h (by simp [pf, hk]) rfl rfl (fun b => by
  by_cases hb : b = a
  · subst hb
    rw [va_up_self]
    unfold pf
    rw [if_neg (show ¬ (x.setBR b f).PK b = true from fun q => by rw [show (x.setBR b f).PK b = x.PK b from rfl, hk] at q; cases q)]
    show eB E (x.BN b) (va_up x.BR b f b) = _
    rw [va_up_self]
  · rw [va_up_ne _ _ hb]
    unfold pf
    show (if x.PK b = true then eMs (x.MF b) else eB E (x.BN b) (va_up x.BR a f b)) = _
    rw [va_up_ne _ _ hb])
theorem wd_fresh {E : gE} {x : St} {A : Nat → Prop} {q : Nat} {e : va_E} (hD : va_D A (wd E x ++ [(q, e)])) : q ∉ x.PL := by
  intro h
  obtain ⟨k, hk⟩ := va_pl_get (X := wF E x) (f := pf E x) h
  have hl := (List.getElem?_eq_some_iff.mp hk).1
  have h1 : (wd E x ++ [(q, e)])[k]? = some (q, pf E x q) := by rw [List.getElem?_append_left (by exact hl)]; exact hk
  have h2 : (wd E x ++ [(q, e)])[(wd E x).length]? = some (q, e) := by simp
  have := hD.1 _ _ _ _ h1 h2 rfl
  unfold wd at this
  omega
theorem wd_addM {E : gE} {x : St} {q : Nat} (hq : q ∉ x.PL) : wd E x ++ [(q, .inr (3, [.int 0, .int 0, .int 0, .int 0, .int 0, .int 0, .int 0]))] = wd E (x.addM q) := by
  unfold wd
  rw [List.append_assoc, va_pl_push hq]
  congr 1
  refine va_pl_congr (fun b => ?_)
  by_cases hb : b = q
  · subst hb
    rw [va_up_self]
    unfold pf
    rw [if_pos (show (x.addM b).PK b = true from va_up_self _ _ _)]
    show _ = eMs (va_up x.MF b (fun _ => 0) b)
    rw [va_up_self]
    rfl
  · rw [va_up_ne _ _ hb]
    unfold pf
    show _ = (if va_up x.PK q true b = true then eMs (va_up x.MF q (fun _ => 0) b) else eB E (x.BN b) (x.BR b))
    rw [va_up_ne _ _ hb, va_up_ne _ _ hb]
theorem wd_addB {E : gE} {x : St} {q n : Nat} (hq : q ∉ x.PL) : wd E x ++ [(q, eB E n (fun _ => none))] = wd E (x.addB q n) := by
  unfold wd
  rw [List.append_assoc, va_pl_push hq]
  congr 1
  refine va_pl_congr (fun b => ?_)
  by_cases hb : b = q
  · subst hb
    rw [va_up_self]
    unfold pf
    rw [if_neg (show ¬ (x.addB b n).PK b = true from fun z => by rw [show (x.addB b n).PK b = false from va_up_self _ _ _] at z; cases z)]
    show _ = eB E (va_up x.BN b n b) (va_up x.BR b (fun _ => none) b)
    rw [va_up_self, va_up_self]
  · rw [va_up_ne _ _ hb]
    unfold pf
    show _ = (if va_up x.PK q false b = true then eMs (x.MF b) else eB E (va_up x.BN q n b) (va_up x.BR q (fun _ => none) b))
    rw [va_up_ne _ _ hb, va_up_ne _ _ hb, va_up_ne _ _ hb]

