/-! ===== the state as the constructors leave it, and what holds of it ===== -/
abbrev k_ra4 (v : Int32) : Nat → Int32 := upd (upd (upd (upd (fun _ => 0) 0 v) 1 v) 2 v) 3 v
def st_0 : St := St.mk (fun _ m => if m = 9 then nI 2 else if m = 10 then nI 1 else if m = 11 then -1 else nI 0) (fun _ m => if m = 0 then -1 else 0)
  (fun _ a => if a = 1 then cm_f 16 else if a = 2 then cm_f 16 else fun _ => 0) (fun _ m => if m = 4 then -1 else nI 0) (fun _ m => if m = 0 then nI 0 else 0) (fun _ => none) (fun _ => 0)
  (fun r => if r = 1 then k_ra4 (-1) else fun _ => 0) 0 [] (fun _ => false) (fun _ _ => 0) (fun _ => 0) (fun _ _ => none)
def vw_0 : Vw := Vw.mk (er st_0) (fun _ => [])
def nR_0 : Nat → Nat → Int := fun _ m => if m = 0 then -1 else 0
def nK_0 : Nat → Nat → Int := fun _ m => if m = 9 then 2 else if m = 10 then 1 else if m = 11 then -1 else 0
def nZ_0 : Nat → Nat → Int := fun _ _ => 0
def nV_0 : Nat → Nat → Int := fun _ j => if j < 16 then -1 else 0
def nH_0 : Nat → Nat → Int := fun _ m => if m = 4 then -1 else 0
theorem z_m1 : (-1 : Int32).toInt = -1 := by decide
theorem z_z0 : (0 : Int32).toInt = 0 := by decide
theorem z_n0 : (nI 0).toInt = 0 := by decide
theorem z_n1 : (nI 1).toInt = 1 := by decide
theorem z_n2 : (nI 2).toInt = 2 := by decide
theorem cm_i {n i : Nat} : (cm_f n i).toInt = if i < n then -1 else 0 := by
  unfold cm_f
  split
  · exact z_m1
  · exact z_z0
theorem k_ra4_i {v : Int32} {i : Nat} (h : i < 4) : k_ra4 v i = v := by
  unfold k_ra4 upd
  rcases (show i = 0 ∨ i = 1 ∨ i = 2 ∨ i = 3 by omega) with rfl | rfl | rfl | rfl <;> rfl
theorem vw_0_R : cR vw_0 = nR_0 := by
  funext i m
  show ((if m = 0 then -1 else 0 : Int32)).toInt = if m = 0 then -1 else 0
  split
  · exact z_m1
  · exact z_z0
theorem vw_0_K : cK vw_0 = nK_0 := by
  funext i m
  show (if m = 7 then 0 else ((if m = 9 then nI 2 else if m = 10 then nI 1 else if m = 11 then -1 else nI 0 : Int32)).toInt) = if m = 9 then 2 else if m = 10 then 1 else if m = 11 then -1 else 0
  by_cases h7 : m = 7
  · subst h7
    rfl
  · rw [if_neg h7]
    split
    · exact z_n2
    · split
      · exact z_n1
      · split
        · exact z_m1
        · exact z_n0
theorem vw_0_S : cS vw_0 = nZ_0 := by
  funext i j
  exact z_z0
theorem vw_0_V : cV vw_0 = nV_0 := by
  funext i j
  exact cm_i
theorem vw_0_W : cW vw_0 = nV_0 := by
  funext i j
  exact cm_i
theorem z_nat0 : nat (nI 0) = 0 := by decide
theorem z_nat00 : nat (0 : Int32) = 0 := by decide
theorem vw_0_O : cO vw_0 = fun _ => [] := by
  funext i
  show uO vw_0 i (nat (nI 0)) = []
  rw [z_nat0]
  rfl
theorem vw_0_H : cH vw_0 = nH_0 := by
  funext j m
  show ((if m = 4 then -1 else nI 0 : Int32)).toInt = if m = 4 then -1 else 0
  split
  · exact z_m1
  · exact z_n0
theorem vw_0_WO (i : Nat) : WO vw_0 i := by
  refine ⟨⟨?_, ?_⟩, fun k _ => ⟨?_, ?_⟩⟩
  · show nI 0 = nI (nat (nI 0))
    rw [z_nat0]
  · show nat (nI 0) ≤ 4
    rw [z_nat0]
    omega
  · show (0 : Int32) = nI (nat (0 : Int32))
    rw [z_nat00]
    decide
  · show nat (0 : Int32) < 16
    rw [z_nat00]
    omega
theorem vw_0_allq : allq (fun _ => []) = ([] : List M7) := by
  unfold allq
  simp
theorem vw_0_inv : InvC nR_0 nK_0 nZ_0 nV_0 nV_0 (fun _ => []) nH_0 [] := by
  refine ⟨fun m hm => absurd hm List.not_mem_nil, fun i _ => ⟨Or.inl rfl, Or.inl ⟨rfl, rfl, rfl, rfl, rfl⟩⟩, fun i _ m hm => absurd hm List.not_mem_nil, fun i _ j hj => ?_, fun i _ => ⟨?_, ?_, ?_⟩, fun i _ => ⟨List.nodup_nil, fun j => ⟨fun h => absurd h List.not_mem_nil, fun h => absurd rfl h.2⟩, ?_, ?_, ?_⟩, fun i _ j hj => ⟨?_, ?_, ?_, fun h => absurd rfl h, fun _ _ => rfl⟩, fun i _ h => absurd rfl h, fun j hj => ⟨Or.inl rfl, ?_⟩, fun j _ => ⟨?_, ?_, ?_, ?_, ?_⟩, fun i _ j _ h => ?_, fun i _ j _ m hm => absurd hm List.not_mem_nil, fun m hm => absurd hm List.not_mem_nil⟩
  · have e : nV_0 i j = -1 := if_pos hj
    rw [e]
    exact ⟨Int.le_refl _, rfl, fun h => absurd rfl h⟩
  · show (0 : Int) = _
    have : (List.range 16).countP (fun j => decide (nV_0 i j ≠ -1)) = 0 := by
      rw [List.countP_eq_zero]
      intro j hj
      have e : nV_0 i j = -1 := if_pos (List.mem_range.mp hj)
      simp [e]
    rw [this]
    rfl
  · show (0 : Int) ≤ 1
    omega
  · show (1 : Int) ≤ 2
    omega
  · show (0 : Int) + 0 ≤ 2
    omega
  · show (1 : Int) ≤ 2
    omega
  · show (2 : Int) ≤ 4
    omega
  · exact Int.le_refl _
  · show (0 : Int) ≤ 3
    omega
  · intro _
    exact if_pos hj
  · have e : ∀ g : Nat, bzA (-1) g j = 0 := fun g => if_neg (fun h => by omega)
    show bzA (-1) _ j + bzA (-1) _ j + bzA (-1) _ j + bzA (-1) _ j + 0 = 0
    rw [e]
    rfl
  · exact Int.le_refl _
  · exact Int.le_refl _
  · show (0 : Int) < 16
    omega
  · exact Int.le_refl _
  · show (-1 : Int) < 4
    omega
  · have h : (-1 : Int) = (i : Int) := h
    omega
theorem vw_0_val : InvV (fun _ => 0) nR_0 nZ_0 nV_0 nV_0 nH_0 [] := by
  refine ⟨fun i _ j _ h => absurd rfl h, fun i _ k _ j _ _ h => absurd h (show ¬ (2 : Int) ≤ 0 by decide), fun j _ _ => rfl, fun i _ j _ h => ?_, fun m hm => absurd hm List.not_mem_nil, fun m hm => absurd hm List.not_mem_nil, fun i _ j _ h => ?_, fun m hm => absurd hm List.not_mem_nil, fun i _ j _ h => absurd rfl h, fun i _ j _ h => absurd h (show ¬ (2 : Int) ≤ 0 by decide), fun i _ j _ h => ?_, fun i _ j _ h => ?_⟩
  all_goals
    have h : (-1 : Int) = (_ : Int) := h
    omega
theorem st_0_CE : CE vw_0 vw_0.x nR_0 nK_0 nZ_0 nV_0 nV_0 (fun _ => []) nH_0 (fun _ => []) := by
  have h := CE.rfl' (v := vw_0) (fun i _ => vw_0_WO i)
  rw [vw_0_R, vw_0_K, vw_0_S, vw_0_V, vw_0_W, vw_0_O, vw_0_H] at h
  exact h
theorem st_0_LS : k_LS st_0 vw_0 vw_0.x (fun _ => 0) := by
  refine ⟨⟨rfl, fun _ => [], ?_, fun j _ => rfl, fun m hm => absurd hm List.not_mem_nil, fun m hm => absurd hm List.not_mem_nil⟩, nR_0, nK_0, nZ_0, nV_0, nV_0, fun _ => [], nH_0, fun _ => [], st_0_CE, ?_, ?_, fun j _ m hm => absurd hm List.not_mem_nil⟩
  · rw [Lp_nil]
    refine ⟨fun j _ => ⟨?_, Nat.zero_le _, Or.inl ⟨rfl, rfl⟩⟩, fun j k a _ _ h => ?_, fun j b _ h => absurd h List.not_mem_nil, fun j k p q b _ _ h => ?_⟩
    · show (0 : Int32) = nI 0
      decide
    · cases h
    · simp at h
  · rw [vw_0_allq]
    exact vw_0_inv
  · rw [vw_0_allq]
    exact vw_0_val
theorem st_0_LW : LW0 vw_0 vw_0.x (fun _ => 0) := by
  refine ⟨fun k hk => ⟨?_, ?_, ?_⟩, fun l hl => z_z0⟩
  · rw [vw_0_R]
    show (k_ra4 (-1) k).toInt = -1
    rw [k_ra4_i hk]
    exact z_m1
  · rw [vw_0_R]
    show (-1 : Int) < 3
    decide
  · rw [vw_0_R]
    exact fun h => absurd rfl h
theorem st_0_use {k : Nat} (hk : k < 4) : nI (r_X0_isInUse vw_0 k) = 0 := (inuse_iff st_0_CE hk).mpr ⟨rfl, Int.le_refl 0, rfl⟩
