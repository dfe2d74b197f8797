/-! ===== the world that the constructors leave, as the world of a state ===== -/
/-- the places of the state's cells in the list that the constructors leave -/
def k_wis : List Nat := [0, 1, 3, 28, 4, 10, 16, 22, 5, 11, 17, 23, 6, 7, 8, 9, 12, 13, 14, 15, 18, 19, 20, 21, 24, 25, 26, 27, 29, 31, 33, 35, 37, 39, 41, 43, 45, 47, 49, 51, 53, 55, 57, 59, 30, 32, 34, 36, 38, 40, 42, 44, 46, 48, 50, 52, 54, 56, 58, 60, 2, 61, 62, 63, 64]
/-- the addresses, in the order of the state's cells -/
def k_wad (d n b1 c1 h1 y0 y1 y2 y3 : Nat) (bf hf : Nat → Nat → Nat) : Nat → Nat := fun k => [d, n, c1, h1, bf 0 0, bf 1 0, bf 2 0, bf 3 0, bf 0 1, bf 1 1, bf 2 1, bf 3 1, bf 0 2, bf 0 3, bf 0 4, bf 0 5, bf 1 2, bf 1 3, bf 1 4, bf 1 5, bf 2 2, bf 2 3, bf 2 4, bf 2 5, bf 3 2, bf 3 3, bf 3 4, bf 3 5, hf 0 0, hf 1 0, hf 2 0, hf 3 0, hf 4 0, hf 5 0, hf 6 0, hf 7 0, hf 8 0, hf 9 0, hf 10 0, hf 11 0, hf 12 0, hf 13 0, hf 14 0, hf 15 0, hf 0 1, hf 1 1, hf 2 1, hf 3 1, hf 4 1, hf 5 1, hf 6 1, hf 7 1, hf 8 1, hf 9 1, hf 10 1, hf 11 1, hf 12 1, hf 13 1, hf 14 1, hf 15 1, b1, y0, y1, y2, y3].getD k 0
def k_wE (E : gE) (ad : Nat → Nat) : gE := (show gET from (E.D, ad, E.cid, E.z, E.sa))
def k_wL (E : gE) (d n b1 c1 h1 y0 y1 y2 y3 : Nat) (bf hf : Nat → Nat → Nat) (fc fh : Nat → Option Nat) : va_W := ((((([] : va_W) ++ ((d, .inr (6, [.ref n, .ref c1, .ref h1])) :: (n, .inr (4, [.ref b1])) :: (b1, .inr (0, [.int (nI 0), .ref E.z, .int 0])) :: (c1, .inl (E.cid 2, 4, .inr (.inr (.inr (.inr (fc)))))) :: (k_cbl E n bf 4 ++ ((h1, .inl (E.cid 3, 16, .inr (.inr (.inr (.inr (fh)))))) :: k_hbl E n hf 16)))) ++ [(y0, .inl (E.cid 0, 4, .inl (fun _ => 0)))]) ++ [(y1, .inl (E.cid 0, 4, .inl (k_ra4 (-1))))]) ++ [(y2, .inl (E.cid 0, 4, .inl (fun _ => 0)))]) ++ [(y3, .inl (E.cid 1, 4, .inl (fun _ => 0)))]
set_option maxRecDepth 100000 in
theorem k_wL_wd (E : gE) (d n b1 c1 h1 y0 y1 y2 y3 : Nat) (bf hf : Nat → Nat → Nat) : k_wis.map (fun i => (k_wL E d n b1 c1 h1 y0 y1 y2 y3 bf hf (fun i => some (aC (k_wE E (k_wad d n b1 c1 h1 y0 y1 y2 y3 bf hf)) i)) (fun i => some (aH (k_wE E (k_wad d n b1 c1 h1 y0 y1 y2 y3 bf hf)) i)))[i]?) = (wd (k_wE E (k_wad d n b1 c1 h1 y0 y1 y2 y3 bf hf)) st_0).map some := rfl
theorem k_cellq (cA : ClassId) (n : Nat) {f g : Nat → Option Nat} (h : ∀ j, j < n → f j = g j) : vp_cell cA (n, .inr (.inr (.inr (.inr f)))) = vp_cell cA (n, .inr (.inr (.inr (.inr g)))) := by
  rw [vp_cell_q, vp_cell_q]
  unfold arrV
  have e : (fun j : Fin n => va_rf (f j.val)) = fun j : Fin n => va_rf (g j.val) := by
    funext j
    rw [h j.val j.isLt]
  rw [e]
set_option maxRecDepth 100000 in
theorem k_wL_cg {D : va_G} {cl : List vw_C} {H : Heap} {A : Nat → Prop} (E : gE) (d n b1 c1 h1 y0 y1 y2 y3 : Nat) (bf hf : Nat → Nat → Nat) {fc fc' fh fh' : Nat → Option Nat} (e1 : ∀ j, j < 4 → fc j = fc' j) (e2 : ∀ j, j < 16 → fh j = fh' j) (hP : va_P D cl (k_wL E d n b1 c1 h1 y0 y1 y2 y3 bf hf fc fh) H) (hD : va_D A (k_wL E d n b1 c1 h1 y0 y1 y2 y3 bf hf fc fh)) : va_P D cl (k_wL E d n b1 c1 h1 y0 y1 y2 y3 bf hf fc' fh') H ∧ va_D A (k_wL E d n b1 c1 h1 y0 y1 y2 y3 bf hf fc' fh') := by
  have e : k_wL E d n b1 c1 h1 y0 y1 y2 y3 bf hf fc' fh' = ((k_wL E d n b1 c1 h1 y0 y1 y2 y3 bf hf fc fh).set 3 (c1, .inl (E.cid 2, 4, .inr (.inr (.inr (.inr fc')))))).set 28 (h1, .inl (E.cid 3, 16, .inr (.inr (.inr (.inr fh'))))) := rfl
  have p3 : (k_wL E d n b1 c1 h1 y0 y1 y2 y3 bf hf fc fh)[3]? = some (c1, .inl (E.cid 2, 4, .inr (.inr (.inr (.inr fc))))) := rfl
  have a3 : va_at D cl (c1, .inl (E.cid 2, 4, .inr (.inr (.inr (.inr fc'))))) H := by
    have q := hP 3 _ p3
    show H[c1]? = some (vp_cell _ (4, .inr (.inr (.inr (.inr fc')))))
    rw [← k_cellq _ _ e1]
    exact q
  have P1 := hP.set hD p3 a3 (fun _ _ => rfl)
  have D1 := hD.set (e := .inl (E.cid 2, 4, .inr (.inr (.inr (.inr fc'))))) p3
  have p4 : ((k_wL E d n b1 c1 h1 y0 y1 y2 y3 bf hf fc fh).set 3 (c1, .inl (E.cid 2, 4, .inr (.inr (.inr (.inr fc'))))))[28]? = some (h1, .inl (E.cid 3, 16, .inr (.inr (.inr (.inr fh))))) := rfl
  have a4 : va_at D cl (h1, .inl (E.cid 3, 16, .inr (.inr (.inr (.inr fh'))))) H := by
    have q := P1 28 _ p4
    show H[h1]? = some (vp_cell _ (16, .inr (.inr (.inr (.inr fh')))))
    rw [← k_cellq _ _ e2]
    exact q
  rw [e]
  exact ⟨P1.set D1 p4 a4 (fun _ _ => rfl), D1.set p4⟩
theorem k_car4 (E : gE) (d n b1 c1 h1 y0 y1 y2 y3 : Nat) (bf hf : Nat → Nat → Nat) : ∀ j, j < 4 → k_car bf 4 j = some (aC (k_wE E (k_wad d n b1 c1 h1 y0 y1 y2 y3 bf hf)) j) := fun j hj => by
  rcases (show j = 0 ∨ j = 1 ∨ j = 2 ∨ j = 3 by omega) with rfl | rfl | rfl | rfl <;> rfl
theorem k_car16 (E : gE) (d n b1 c1 h1 y0 y1 y2 y3 : Nat) (bf hf : Nat → Nat → Nat) : ∀ j, j < 16 → k_car hf 16 j = some (aH (k_wE E (k_wad d n b1 c1 h1 y0 y1 y2 y3 bf hf)) j) := fun j hj => by
  rcases (show j = 0 ∨ j = 1 ∨ j = 2 ∨ j = 3 ∨ j = 4 ∨ j = 5 ∨ j = 6 ∨ j = 7 ∨ j = 8 ∨ j = 9 ∨ j = 10 ∨ j = 11 ∨ j = 12 ∨ j = 13 ∨ j = 14 ∨ j = 15 by omega) with rfl | rfl | rfl | rfl | rfl | rfl | rfl | rfl | rfl | rfl | rfl | rfl | rfl | rfl | rfl | rfl <;> rfl
theorem k_fm_of {α β : Type} (g : α → Option β) : ∀ (l : List α) (r : List β), l.map g = r.map some → l.filterMap g = r
  | [], [], _ => rfl
  | [], _ :: _, h => by cases h
  | _ :: _, [], h => by cases h
  | a :: l, c :: r, h => by
    rw [List.map_cons, List.map_cons] at h
    injection h with h1 h2
    rw [List.filterMap_cons_some h1, k_fm_of g l r h2]

