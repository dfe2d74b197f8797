/-! ===== what a view shows, as numbers ===== -/
def cR (v : Vw) : Nat → Nat → Int := fun i m => (v.x.FR i m).toInt
def cK (v : Vw) : Nat → Nat → Int := fun i m => if m = 7 then 0 else (v.x.FC i m).toInt
def cS (v : Vw) : Nat → Nat → Int := fun i j => (v.x.AC i 0 j).toInt
def cV (v : Vw) : Nat → Nat → Int := fun i j => (v.x.AC i 1 j).toInt
def cW (v : Vw) : Nat → Nat → Int := fun i j => (v.x.AC i 2 j).toInt
def uO (v : Vw) (i n : Nat) : List Nat := (List.range n).map (fun k => nat (v.x.AC i 3 k))
def cO (v : Vw) : Nat → List Nat := fun i => uO v i (nat (v.x.FC i 7))
def cH (v : Vw) : Nat → Nat → Int := fun j m => (v.x.FH j m).toInt
/-- the order of uses of cache i is well kept -/
def WO (v : Vw) (i : Nat) : Prop := (v.x.FC i 7 = nI (nat (v.x.FC i 7)) ∧ nat (v.x.FC i 7) ≤ 4) ∧ ∀ k, k < 4 → v.x.AC i 3 k = nI (nat (v.x.AC i 3 k)) ∧ nat (v.x.AC i 3 k) < 16
/-- the view shows these numbers -/
def CE (v : Vw) (A : St) (R K S V W : Nat → Nat → Int) (O : Nat → List Nat) (H : Nat → Nat → Int) (q : Nat → List M7) : Prop :=
  (v.x.FM = A.FM ∧ v.x.AM = A.AM) ∧ cR v = R ∧ cK v = K ∧ cS v = S ∧ cV v = V ∧ cW v = W ∧ cO v = O ∧ cH v = H ∧ v.q = q ∧ ∀ i, i < 4 → WO v i
theorem w2_u2 {f : Nat → Nat → Int32} {i m : Nat} {w : Int32} : (fun k n => ((u2 f i m w) k n).toInt) = w2 (fun k n => (f k n).toInt) i m w.toInt := by
  funext k n
  unfold w2 u2 va_up
  by_cases h1 : k = i
  · by_cases h2 : n = m <;> simp [h1, h2]
  · simp [h1]
section CMP
variable {v : Vw} {A : St} {R K S V W : Nat → Nat → Int} {O : Nat → List Nat} {H : Nat → Nat → Int} {q : Nat → List M7}
theorem CE.rfl' (h : ∀ i, i < 4 → WO v i) : CE v v.x (cR v) (cK v) (cS v) (cV v) (cW v) (cO v) (cH v) v.q := ⟨⟨rfl, rfl⟩, rfl, rfl, rfl, rfl, rfl, rfl, rfl, rfl, h⟩
theorem CE.sFR {i m : Nat} {w : Int32} (h : CE v A R K S V W O H q) : CE (vFR v i m w) A (w2 R i m w.toInt) K S V W O H q := by
  obtain ⟨h0, h1, h2, h3, h4, h5, h6, h7, h8, h9⟩ := h
  exact ⟨h0, by rw [← h1]; exact w2_u2, h2, h3, h4, h5, h6, h7, h8, h9⟩
theorem CE.sFH {i m : Nat} {w : Int32} (h : CE v A R K S V W O H q) : CE (vFH v i m w) A R K S V W O (w2 H i m w.toInt) q := by
  obtain ⟨h0, h1, h2, h3, h4, h5, h6, h7, h8, h9⟩ := h
  exact ⟨h0, h1, h2, h3, h4, h5, h6, by rw [← h7]; exact w2_u2, h8, h9⟩
theorem CE.sFC {i m : Nat} {w : Int32} (h : CE v A R K S V W O H q) (hm : m ≠ 7) : CE (vFC v i m w) A R (w2 K i m w.toInt) S V W O H q := by
  obtain ⟨h0, h1, h2, h3, h4, h5, h6, h7, h8, h9⟩ := h
  have e7 : ∀ k, (vFC v i m w).x.FC k 7 = v.x.FC k 7 := fun k => by
    show (u2 v.x.FC i m w) k 7 = v.x.FC k 7
    unfold u2 va_up
    by_cases hk : k = i
    · subst hk
      simp [Ne.symm hm]
    · simp [hk]
  refine ⟨h0, h1, ?_, h3, h4, h5, ?_, h7, h8, fun k hk => ?_⟩
  · rw [← h2]
    funext k n
    by_cases hn : n = 7
    · subst hn
      simp [cK, w2, Ne.symm hm]
    · have e : ((u2 v.x.FC i m w) k n).toInt = w2 (fun k n => (v.x.FC k n).toInt) i m w.toInt k n := congrFun (congrFun w2_u2 k) n
      unfold cK
      unfold w2 at e ⊢
      dsimp only at e ⊢
      rw [if_neg hn, if_neg hn]
      exact e
  · rw [← h6]
    funext k
    unfold cO
    rw [e7]
    rfl
  · unfold WO
    rw [e7]
    exact h9 k hk
theorem ac_ne {i a k b : Nat} {f : Nat → Int32} (h : ¬ (k = i ∧ b = a)) : (vAC v i a f).x.AC k b = v.x.AC k b := by
  show va_up v.x.AC i (va_up (v.x.AC i) a f) k b = v.x.AC k b
  unfold va_up
  by_cases hk : k = i
  · subst hk
    have hb : b ≠ a := fun e => h ⟨rfl, e⟩
    simp [hb]
  · simp [hk]
theorem ac_eq {i a : Nat} {f : Nat → Int32} : (vAC v i a f).x.AC i a = f := by
  show va_up v.x.AC i (va_up (v.x.AC i) a f) i a = f
  rw [va_up_self, va_up_self]
theorem wo_ac {i a k : Nat} {f : Nat → Int32} (ha : a ≠ 3) (h : WO v k) : WO (vAC v i a f) k := by
  unfold WO
  rw [ac_ne (fun e => ha e.2.symm)]
  exact h
theorem co_ac {i a : Nat} {f : Nat → Int32} (ha : a ≠ 3) : cO (vAC v i a f) = cO v := by
  funext k
  unfold cO uO
  rw [ac_ne (fun e => ha e.2.symm)]
  rfl
theorem w2_ac {i j : Nat} {f g : Nat → Nat → Int32} {w : Int32} (h1 : g i = upd (f i) j w) (h2 : ∀ k, k ≠ i → g k = f k) : (fun k n => (g k n).toInt) = w2 (fun k n => (f k n).toInt) i j w.toInt := by
  funext k n
  unfold w2
  by_cases hk : k = i
  · subst hk
    rw [h1]
    unfold upd
    by_cases hn : n = j <;> simp [hn]
  · rw [h2 k hk]
    simp [hk]
theorem CE.sS {i j : Nat} {w : Int32} (h : CE v A R K S V W O H q) : CE (vAC v i 0 (upd (v.x.AC i 0) j w)) A R K (w2 S i j w.toInt) V W O H q := by
  obtain ⟨h0, h1, h2, h3, h4, h5, h6, h7, h8, h9⟩ := h
  refine ⟨h0, h1, h2, ?_, ?_, ?_, by rw [co_ac (by decide)]; exact h6, h7, h8, fun k hk => wo_ac (by decide) (h9 k hk)⟩
  · rw [← h3]
    exact w2_ac (f := fun k n => v.x.AC k 0 n) (g := fun k n => (vAC v i 0 (upd (v.x.AC i 0) j w)).x.AC k 0 n) (by simp only [ac_eq]) (fun k hk => by simp only [ac_ne (fun e : k = i ∧ 0 = 0 => hk e.1)])
  · rw [← h4]
    refine funext fun k => funext fun n => ?_
    show ((vAC v i 0 _).x.AC k 1 n).toInt = _
    rw [ac_ne (k := k) (b := 1) (fun e => by cases e.2)]
    rfl
  · rw [← h5]
    refine funext fun k => funext fun n => ?_
    show ((vAC v i 0 _).x.AC k 2 n).toInt = _
    rw [ac_ne (k := k) (b := 2) (fun e => by cases e.2)]
    rfl
theorem CE.sV {i j : Nat} {w : Int32} (h : CE v A R K S V W O H q) : CE (vAC v i 1 (upd (v.x.AC i 1) j w)) A R K S (w2 V i j w.toInt) W O H q := by
  obtain ⟨h0, h1, h2, h3, h4, h5, h6, h7, h8, h9⟩ := h
  refine ⟨h0, h1, h2, ?_, ?_, ?_, by rw [co_ac (by decide)]; exact h6, h7, h8, fun k hk => wo_ac (by decide) (h9 k hk)⟩
  · rw [← h3]
    refine funext fun k => funext fun n => ?_
    show ((vAC v i 1 _).x.AC k 0 n).toInt = _
    rw [ac_ne (k := k) (b := 0) (fun e => by cases e.2)]
    rfl
  · rw [← h4]
    exact w2_ac (f := fun k n => v.x.AC k 1 n) (g := fun k n => (vAC v i 1 (upd (v.x.AC i 1) j w)).x.AC k 1 n) (by simp only [ac_eq]) (fun k hk => by simp only [ac_ne (fun e : k = i ∧ 1 = 1 => hk e.1)])
  · rw [← h5]
    refine funext fun k => funext fun n => ?_
    show ((vAC v i 1 _).x.AC k 2 n).toInt = _
    rw [ac_ne (k := k) (b := 2) (fun e => by cases e.2)]
    rfl
theorem CE.sW {i j : Nat} {w : Int32} (h : CE v A R K S V W O H q) : CE (vAC v i 2 (upd (v.x.AC i 2) j w)) A R K S V (w2 W i j w.toInt) O H q := by
  obtain ⟨h0, h1, h2, h3, h4, h5, h6, h7, h8, h9⟩ := h
  refine ⟨h0, h1, h2, ?_, ?_, ?_, by rw [co_ac (by decide)]; exact h6, h7, h8, fun k hk => wo_ac (by decide) (h9 k hk)⟩
  · rw [← h3]
    refine funext fun k => funext fun n => ?_
    show ((vAC v i 2 _).x.AC k 0 n).toInt = _
    rw [ac_ne (k := k) (b := 0) (fun e => by cases e.2)]
    rfl
  · rw [← h4]
    refine funext fun k => funext fun n => ?_
    show ((vAC v i 2 _).x.AC k 1 n).toInt = _
    rw [ac_ne (k := k) (b := 1) (fun e => by cases e.2)]
    rfl
  · rw [← h5]
    exact w2_ac (f := fun k n => v.x.AC k 2 n) (g := fun k n => (vAC v i 2 (upd (v.x.AC i 2) j w)).x.AC k 2 n) (by simp only [ac_eq]) (fun k hk => by simp only [ac_ne (fun e : k = i ∧ 2 = 2 => hk e.1)])
theorem CE.snd {m : M7} (h : CE v A R K S V W O H q) : CE (vsend v m) A R K S V W O H (va_up q 16 (q 16 ++ [m])) := by
  obtain ⟨h0, h1, h2, h3, h4, h5, h6, h7, h8, h9⟩ := h
  exact ⟨h0, h1, h2, h3, h4, h5, h6, h7, by rw [← h8]; rfl, h9⟩
theorem CE.sq {j : Nat} {l : List M7} (h : CE v A R K S V W O H q) : CE (vq v j l) A R K S V W O H (va_up q j l) := by
  obtain ⟨h0, h1, h2, h3, h4, h5, h6, h7, h8, h9⟩ := h
  exact ⟨h0, h1, h2, h3, h4, h5, h6, h7, by rw [← h8]; rfl, h9⟩
theorem fl_snoc {l : List Nat} {a j : Nat} : fl (l ++ [a]) j = fl l j ++ (if a = j then [] else [a]) := by
  unfold fl
  rw [List.filter_append]
  by_cases h : a = j <;> simp [h]
theorem gd_r {l : List Nat} {a k : Nat} (h : k = l.length) : (l ++ [a]).getD k 0 = a := by
  subst h
  rw [List.getD_eq_getElem?_getD, List.getElem?_append_right (Nat.le_refl _), Nat.sub_self]
  rfl
theorem gd_l {l : List Nat} {a k : Nat} (h : k < l.length) : (l ++ [a]).getD k 0 = l.getD k 0 := by
  rw [List.getD_eq_getElem?_getD, List.getD_eq_getElem?_getD, List.getElem?_append_left h]
theorem uO_succ (n i : Nat) : uO v i (n + 1) = uO v i n ++ [nat (v.x.AC i 3 n)] := by
  unfold uO
  rw [List.range_succ, List.map_append]
  rfl
theorem uO_len (n i : Nat) : (uO v i n).length = n := by
  unfold uO
  simp
theorem map_getD {l : List Nat} {n : Nat} (h : n = l.length) {f : Nat → Nat} (hf : ∀ k, k < n → f k = l.getD k 0) : (List.range n).map f = l := by
  subst h
  refine List.ext_getElem? (fun k => ?_)
  by_cases hk : k < l.length
  · rw [List.getElem?_map, List.getElem?_range hk, Option.map_some, hf k hk, List.getD_eq_getElem?_getD, List.getElem?_eq_getElem hk]
    rfl
  · rw [List.getElem?_eq_none (by simpa using hk), List.getElem?_eq_none (by omega)]
/-- the same view but for the rows of uses of cache i -/
def eqU (w v : Vw) (i : Nat) : Prop := w.q = v.q ∧ w.x.FC = v.x.FC ∧ w.x.FR = v.x.FR ∧ w.x.FH = v.x.FH ∧ (w.x.FM = v.x.FM ∧ w.x.AM = v.x.AM) ∧ ∀ k a, ¬ (k = i ∧ a = 3) → w.x.AC k a = v.x.AC k a
theorem lp_uses {i j : Nat} (hw : WO v i) (hj : j < 16) : ∀ n, n ≤ nat (v.x.FC i 7) → eqU (lp_X0_leaveUseOrder_4 v i j 0 v n).2 v i ∧ (lp_X0_leaveUseOrder_4 v i j 0 v n).1 = (fl (uO v i n) j).length ∧ (∀ k, k < (fl (uO v i n) j).length → (lp_X0_leaveUseOrder_4 v i j 0 v n).2.x.AC i 3 k = nI ((fl (uO v i n) j).getD k 0)) ∧ ∀ k, (fl (uO v i n) j).length ≤ k → (lp_X0_leaveUseOrder_4 v i j 0 v n).2.x.AC i 3 k = v.x.AC i 3 k := by
  intro n
  induction n with
  | zero => exact fun _ => ⟨⟨rfl, rfl, rfl, rfl, ⟨rfl, rfl⟩, fun _ _ _ => rfl⟩, rfl, fun k hk => absurd hk (Nat.not_lt_zero _), fun _ _ => rfl⟩
  | succ n ih =>
    intro hn
    obtain ⟨h1, h2, h3, h4⟩ := ih (by omega)
    have hle : (fl (uO v i n) j).length ≤ n := by
      have := List.length_filter_le (fun k : Nat => decide (k ≠ j)) (uO v i n)
      rw [uO_len] at this
      exact this
    have e0 := h4 n hle
    obtain ⟨g1, g2⟩ := hw.2 n (by have := hw.1.2; omega)
    rw [uO_succ, fl_snoc]
    have hc : (lp_X0_leaveUseOrder_4 v i j 0 v n).2.x.AC i 3 n = nI j ↔ nat (v.x.AC i 3 n) = j := by
      rw [e0]
      exact ⟨fun e => by rw [e]; exact nI_clamp (by omega), fun e => by rw [g1, e]⟩
    unfold lp_X0_leaveUseOrder_4
    by_cases hb : nat (v.x.AC i 3 n) = j
    · rw [if_pos (hc.mpr hb), if_pos hb, List.append_nil]
      exact ⟨h1, h2, h3, h4⟩
    · rw [if_neg (fun e => hb (hc.mp e)), if_neg hb]
      obtain ⟨u1, u2, u3, u4, u5, u6⟩ := h1
      refine ⟨⟨u1, u2, u3, u4, u5, fun k a hka => ?_⟩, ?_, fun k hk => ?_, fun k hk => ?_⟩
      · rw [ac_ne hka]
        exact u6 k a hka
      · simp only [h2, List.length_append, List.length_singleton]
      · simp only [ac_eq]
        unfold upd
        rw [h2]
        rw [List.length_append, List.length_singleton] at hk
        by_cases hkl : k = (fl (uO v i n) j).length
        · rw [if_pos hkl, e0, gd_r hkl]
          exact g1
        · rw [if_neg hkl, h3 k (by omega), gd_l (by omega)]
      · simp only [ac_eq]
        unfold upd
        rw [h2]
        rw [List.length_append, List.length_singleton] at hk
        rw [if_neg (by omega), h4 k (by omega)]
theorem uO_all {i : Nat} {l : List Nat} {n : Nat} (hn : n = l.length) (h : ∀ k, k < n → v.x.AC i 3 k = nI (l.getD k 0)) (hl : ∀ a ∈ l, a < 16) : uO v i n = l := by
  unfold uO
  refine map_getD hn (fun k hk => ?_)
  rw [h k hk]
  have : l.getD k 0 < 16 := by
    rw [List.getD_eq_getElem?_getD, List.getElem?_eq_getElem (by omega)]
    exact hl _ (List.getElem_mem _)
  exact nI_clamp (by omega)
theorem uO_lt {i : Nat} (hw : WO v i) {n : Nat} (hn : n ≤ 4) : ∀ a ∈ uO v i n, a < 16 := by
  intro a ha
  unfold uO at ha
  obtain ⟨k, hk, rfl⟩ := List.mem_map.mp ha
  exact (hw.2 k (by have := List.mem_range.mp hk; omega)).2
theorem nat_nI {n : Nat} (h : n < 2 ^ 31) : nat (nI n) = n := nI_clamp h
/-- a line leaves the order of uses -/
theorem CE.leave {i j : Nat} (h : CE v A R K S V W O H q) (hi : i < 4) (hj : j < 16) : CE (s_X0_leaveUseOrder v i j) A R K S V W (va_up O i (fl (O i) j)) H q ∧ kc v i j = (fl (O i) j).length := by
  obtain ⟨h0, h1, h2, h3, h4, h5, h6, h7, h8, h9⟩ := h
  have hw := h9 i hi
  obtain ⟨⟨u1, u2', u3, u4, u5, u6⟩, l2, l3, l4⟩ := lp_uses hw hj (nat (v.x.FC i 7)) (Nat.le_refl _)
  have hOi : O i = uO v i (nat (v.x.FC i 7)) := by rw [← h6]; rfl
  have hlen : (fl (uO v i (nat (v.x.FC i 7))) j).length ≤ 4 := by
    have := List.length_filter_le (fun k : Nat => decide (k ≠ j)) (uO v i (nat (v.x.FC i 7)))
    rw [uO_len] at this
    have := hw.1.2
    unfold fl
    omega
  have f7 : ∀ k, (s_X0_leaveUseOrder v i j).x.FC k 7 = if k = i then nI (fl (uO v i (nat (v.x.FC i 7))) j).length else v.x.FC k 7 := fun k => by
    show (u2 _ i 7 _) k 7 = _
    unfold u2 va_up
    by_cases hk : k = i
    · subst hk
      simp [l2]
    · simp [hk, u2']
  have fn : ∀ k n, n ≠ 7 → (s_X0_leaveUseOrder v i j).x.FC k n = v.x.FC k n := fun k n hn => by
    show (u2 _ i 7 _) k n = _
    unfold u2 va_up
    by_cases hk : k = i
    · subst hk
      simp [hn, u2']
    · simp [hk, u2']
  have fa : (s_X0_leaveUseOrder v i j).x.AC = (lp_X0_leaveUseOrder_4 v i j 0 v (nat (v.x.FC i 7))).2.x.AC := rfl
  refine ⟨⟨⟨u5.1.trans h0.1, u5.2.trans h0.2⟩, ?_, ?_, ?_, ?_, ?_, ?_, ?_, u1.trans h8, ?_⟩, ?_⟩
  · rw [← h1]
    refine funext fun k => funext fun n => ?_
    show ((lp_X0_leaveUseOrder_4 v i j 0 v (nat (v.x.FC i 7))).2.x.FR k n).toInt = _
    rw [u3]
    rfl
  · rw [← h2]
    refine funext fun k => funext fun n => ?_
    unfold cK
    by_cases hn : n = 7
    · rw [if_pos hn, if_pos hn]
    · rw [if_neg hn, if_neg hn, fn k n hn]
  · rw [← h3]
    refine funext fun k => funext fun n => ?_
    unfold cS
    rw [fa, u6 k 0 (fun e => by cases e.2)]
  · rw [← h4]
    refine funext fun k => funext fun n => ?_
    unfold cV
    rw [fa, u6 k 1 (fun e => by cases e.2)]
  · rw [← h5]
    refine funext fun k => funext fun n => ?_
    unfold cW
    rw [fa, u6 k 2 (fun e => by cases e.2)]
  · refine funext fun k => ?_
    unfold cO
    rw [f7]
    by_cases hk : k = i
    · subst hk
      rw [va_up_self, if_pos rfl, hOi, nat_nI (by omega)]
      exact uO_all rfl (fun k hk => by rw [fa]; exact l3 k hk) (fun a ha => uO_lt hw hw.1.2 a (fl_mem.mp ha).1)
    · rw [va_up_ne _ _ hk, if_neg hk, ← h6]
      unfold cO uO
      rw [fa, u6 k 3 (fun e => hk e.1)]
  · rw [← h7]
    refine funext fun k => funext fun n => ?_
    show ((lp_X0_leaveUseOrder_4 v i j 0 v (nat (v.x.FC i 7))).2.x.FH k n).toInt = _
    rw [u4]
    rfl
  · intro k hk4
    by_cases hk : k = i
    · subst hk
      refine ⟨?_, fun n hn => ?_⟩
      · rw [f7, if_pos rfl, nat_nI (by omega)]
        exact ⟨rfl, hlen⟩
      · rw [fa]
        by_cases hn2 : n < (fl (uO v k (nat (v.x.FC k 7))) j).length
        · have e := l3 n hn2
          have hlt : (fl (uO v k (nat (v.x.FC k 7))) j).getD n 0 < 16 := by
            rw [List.getD_eq_getElem?_getD, List.getElem?_eq_getElem hn2]
            exact uO_lt hw hw.1.2 _ (fl_mem.mp (List.getElem_mem hn2)).1
          rw [e, nat_nI (by omega)]
          exact ⟨rfl, hlt⟩
        · rw [l4 n (by omega)]
          exact hw.2 n hn
    · have q9 := h9 k hk4
      unfold WO
      rw [f7, if_neg hk, fa, u6 k 3 (fun e => hk e.1)]
      exact q9
  · unfold kc
    rw [l2, hOi]
/-- a line is removed from a cache -/
theorem CE.drop {i j : Nat} (h : CE v A R K S V W O H q) (hi : i < 4) (hj : j < 16) : CE (s_X0_drop v i j) A R K (w2 S i j 0) (w2 V i j (-1)) W (va_up O i (fl (O i) j)) H q := by
  have h2 := (h.sS (i := i) (j := j) (w := nI 0)).sV (i := i) (j := j) (w := -1)
  rw [show (nI 0).toInt = 0 by decide, show (-1 : Int32).toInt = -1 by decide] at h2
  exact (h2.leave hi hj).1
/-- a line becomes the latest used -/
theorem CE.mark {i j : Nat} (h : CE v A R K S V W O H q) (hi : i < 4) (hj : j < 16) (hl : (fl (O i) j).length ≤ 3) : CE (s_X0_markUsed v i j) A R K S V W (va_up O i (fl (O i) j ++ [j])) H q := by
  obtain ⟨hL, hk⟩ := h.leave hi hj
  obtain ⟨h0, h1, h2, h3, h4, h5, h6, h7, h8, h9⟩ := hL
  have hw := h9 i hi
  have hcl : nat ((s_X0_leaveUseOrder v i j).x.FC i 7) = kc v i j := by
    have : (cO (s_X0_leaveUseOrder v i j) i).length = (fl (O i) j).length := by rw [h6, va_up_self]
    unfold cO at this
    rw [uO_len] at this
    rw [this, hk]
  have hOi : uO (s_X0_leaveUseOrder v i j) i (kc v i j) = fl (O i) j := by
    rw [← hcl]
    have : cO (s_X0_leaveUseOrder v i j) i = fl (O i) j := by rw [h6, va_up_self]
    exact this
  have e : s_X0_markUsed v i j = vFC (vAC (s_X0_leaveUseOrder v i j) i 3 (upd ((s_X0_leaveUseOrder v i j).x.AC i 3) (kc v i j) (nI j))) i 7 (nI (kc v i j + 1)) := by
    unfold s_X0_markUsed
    dsimp only
    rw [if_neg (by omega)]
  have f7 : ∀ k, (s_X0_markUsed v i j).x.FC k 7 = if k = i then nI (kc v i j + 1) else (s_X0_leaveUseOrder v i j).x.FC k 7 := fun k => by
    rw [e]
    show (u2 _ i 7 _) k 7 = _
    unfold u2 va_up
    by_cases hk : k = i
    · subst hk
      simp
    · simp [hk]
      rfl
  have fn : ∀ k n, n ≠ 7 → (s_X0_markUsed v i j).x.FC k n = (s_X0_leaveUseOrder v i j).x.FC k n := fun k n hn => by
    rw [e]
    show (u2 _ i 7 _) k n = _
    unfold u2 va_up
    by_cases hk : k = i
    · subst hk
      simp [hn]
      rfl
    · simp [hk]
      rfl
  have fa : ∀ k a, ¬ (k = i ∧ a = 3) → (s_X0_markUsed v i j).x.AC k a = (s_X0_leaveUseOrder v i j).x.AC k a := fun k a hka => by
    rw [e]
    exact ac_ne hka
  have fi : (s_X0_markUsed v i j).x.AC i 3 = upd ((s_X0_leaveUseOrder v i j).x.AC i 3) (kc v i j) (nI j) := by
    rw [e]
    exact ac_eq
  have fR : (s_X0_markUsed v i j).x.FR = (s_X0_leaveUseOrder v i j).x.FR := by rw [e]; rfl
  have fH : (s_X0_markUsed v i j).x.FH = (s_X0_leaveUseOrder v i j).x.FH := by rw [e]; rfl
  have fM : (s_X0_markUsed v i j).x.FM = (s_X0_leaveUseOrder v i j).x.FM := by rw [e]; rfl
  have fA : (s_X0_markUsed v i j).x.AM = (s_X0_leaveUseOrder v i j).x.AM := by rw [e]; rfl
  have fq : (s_X0_markUsed v i j).q = (s_X0_leaveUseOrder v i j).q := by rw [e]; rfl
  refine ⟨⟨fM.trans h0.1, fA.trans h0.2⟩, ?_, ?_, ?_, ?_, ?_, ?_, ?_, fq.trans h8, ?_⟩
  · rw [← h1]
    unfold cR
    rw [fR]
  · rw [← h2]
    refine funext fun k => funext fun n => ?_
    unfold cK
    by_cases hn : n = 7
    · rw [if_pos hn, if_pos hn]
    · rw [if_neg hn, if_neg hn, fn k n hn]
  · rw [← h3]
    refine funext fun k => funext fun n => ?_
    unfold cS
    rw [fa k 0 (fun e => by cases e.2)]
  · rw [← h4]
    refine funext fun k => funext fun n => ?_
    unfold cV
    rw [fa k 1 (fun e => by cases e.2)]
  · rw [← h5]
    refine funext fun k => funext fun n => ?_
    unfold cW
    rw [fa k 2 (fun e => by cases e.2)]
  · refine funext fun k => ?_
    by_cases hk2 : k = i
    · subst hk2
      rw [va_up_self]
      unfold cO
      rw [f7, if_pos rfl, nat_nI (by omega), uO_succ, fi]
      congr 1
      · rw [← hOi]
        unfold uO
        refine List.map_congr_left (fun n hn => ?_)
        rw [fi]
        unfold upd
        rw [if_neg (by have := List.mem_range.mp hn; omega)]
      · unfold upd
        rw [if_pos rfl]
        rw [nat_nI (by omega)]
    · rw [va_up_ne _ _ hk2]
      have := congrFun h6 k
      rw [va_up_ne _ _ hk2] at this
      rw [← this]
      unfold cO uO
      rw [f7, if_neg hk2, fa k 3 (fun e => hk2 e.1)]
  · rw [← h7]
    unfold cH
    rw [fH]
  · intro k hk4
    by_cases hk2 : k = i
    · subst hk2
      refine ⟨?_, fun n hn => ?_⟩
      · rw [f7, if_pos rfl, nat_nI (by omega)]
        exact ⟨rfl, by omega⟩
      · rw [fi]
        unfold upd
        by_cases hn2 : n = kc v k j
        · rw [if_pos hn2]
          rw [nat_nI (by omega)]
          exact ⟨rfl, hj⟩
        · rw [if_neg hn2]
          exact hw.2 n hn
    · have q9 := h9 k hk4
      unfold WO
      rw [f7, if_neg hk2, fa k 3 (fun e => hk2 e.1)]
      exact q9
theorem CE.store {i j : Nat} {s a : Int32} (h : CE v A R K S V W O H q) (hi : i < 4) (hj : j < 16) (hl : (fl (O i) j).length ≤ 3) : CE (s_X0_store v i j s a) A R K (w2 S i j s.toInt) (w2 V i j a.toInt) W (va_up O i (fl (O i) j ++ [j])) H q := by
  have h2 := (h.sS (i := i) (j := j) (w := s)).sV (i := i) (j := j) (w := a)
  exact h2.mark hi hj hl
end CMP
