/-! ===== the protocol: what holds of all messages there are, of the caches and of the homes ===== -/
def kd (m : M7) : Int := (m 0).toInt
def ln (m : M7) : Int := (m 1).toInt
def fr (m : M7) : Int := (m 2).toInt
def tt (m : M7) : Int := (m 3).toInt
def vl (m : M7) : Int := (m 4).toInt
def cn (m : M7) : Int := (m 5).toInt
def rq (m : M7) : Int := (m 6).toInt
/-- a request of cache i that no home has processed -/
def pG (i : Nat) (m : M7) : Bool := decide ((kd m = 1 ∨ kd m = 2) ∧ fr m = (i : Int))
/-- a forward for cache i -/
def pF (i : Nat) (m : M7) : Bool := decide ((kd m = 8 ∨ kd m = 9) ∧ rq m = (i : Int))
/-- an answer to cache i -/
def pD (i : Nat) (m : M7) : Bool := decide ((kd m = 5 ∨ kd m = 6) ∧ tt m = (i : Int))
/-- an invalidation for cache i, or its acknowledgement -/
def pX (i : Nat) (m : M7) : Bool := decide ((kd m = 10 ∧ rq m = (i : Int)) ∨ (kd m = 7 ∧ tt m = (i : Int)))
/-- a writeback of line j by cache i, or its acknowledgement -/
def pP (i j : Nat) (m : M7) : Bool := decide ((kd m = 3 ∧ fr m = (i : Int) ∧ ln m = (j : Int)) ∨ (kd m = 11 ∧ tt m = (i : Int) ∧ ln m = (j : Int)))
def pU (i j : Nat) (m : M7) : Bool := decide (kd m = 3 ∧ fr m = (i : Int) ∧ ln m = (j : Int))
def pN (j : Nat) (m : M7) : Bool := decide (kd m = 4 ∧ ln m = (j : Int))
def wfm (m : M7) : Prop := 0 ≤ ln m ∧ ln m < 16 ∧
  ((1 ≤ kd m ∧ kd m ≤ 4 ∧ 0 ≤ fr m ∧ fr m < 4 ∧ tt m = -1) ∨ (5 ≤ kd m ∧ kd m ≤ 11 ∧ 0 ≤ tt m ∧ tt m < 4)) ∧
  ((kd m = 8 ∨ kd m = 9 ∨ kd m = 10) → 0 ≤ rq m ∧ rq m < 4) ∧ (kd m = 8 → cn m = 0) ∧ ((kd m = 3 ∨ kd m = 5) → 0 ≤ vl m)
/-- the open request of a cache, and how many messages belong to it -/
def rqA (r0 r1 r3 r5 r6 : Int) (g f d x : Nat) : Prop := (r3 = 0 ∨ r3 = 1) ∧ ((r0 = -1 ∧ g = 0 ∧ f = 0 ∧ d = 0 ∧ x = 0) ∨
  (0 ≤ r0 ∧ r0 < 16 ∧ (r1 = 0 ∨ r1 = 1) ∧ ((g = 1 ∧ f = 0 ∧ d = 0 ∧ x = 0 ∧ r3 = 0 ∧ r6 = 0) ∨
    (g = 0 ∧ (f : Int) + d + r3 = 1 ∧ 0 ≤ r6 ∧ x + r6 ≤ 4 ∧ (r3 = 1 → r5 = x + r6)))))
/-- a message that belongs to the request of cache i -/
def lkA (i : Nat) (r0 r1 x6 : Int) (m : M7) : Prop :=
  ((kd m = 1 ∨ kd m = 2) → fr m = (i : Int) → ln m = r0 ∧ r1 = kd m - 1) ∧
  ((kd m = 8 ∨ kd m = 9) → rq m = (i : Int) → ln m = r0 ∧ cn m = x6 ∧ (kd m = 9 → r1 = 1)) ∧
  ((kd m = 5 ∨ kd m = 6) → tt m = (i : Int) → ln m = r0 ∧ cn m = x6 ∧ (kd m = 6 → r1 = 1)) ∧
  (kd m = 10 → rq m = (i : Int) → ln m = r0) ∧ (kd m = 7 → tt m = (i : Int) → ln m = r0)
def ordA (O : List Nat) (S : Nat → Int) (r0 w : Int) : Prop := O.Nodup ∧ (∀ j : Nat, j ∈ O ↔ j < 16 ∧ S j ≠ 0) ∧
  ((O.filter (fun j : Nat => decide ((j : Int) ≠ r0))).length : Int) + (if r0 = -1 then 0 else 1) ≤ w ∧ 1 ≤ w ∧ w ≤ 4
def valA (s v r0 r1 : Int) (j : Nat) : Prop := 0 ≤ s ∧ s ≤ 3 ∧ (s = 0 → v = -1) ∧ (s ≠ 0 → 0 ≤ v) ∧ (r0 = (j : Int) → r1 = 0 → s = 0)
def s4 (f : Nat → Int) : Int := f 0 + f 1 + f 2 + f 3
def hdA (s : Int) (n : Nat) : Prop := 2 ≤ s ∨ 0 < n
def bzA (r0 : Int) (g j : Nat) : Int := if r0 = (j : Int) ∧ g = 0 then 1 else 0
def w2 (f : Nat → Nat → Int) (i j : Nat) (v : Int) : Nat → Nat → Int := fun k m => if k = i ∧ m = j then v else f k m
def InvC (R K S V W : Nat → Nat → Int) (O : Nat → List Nat) (H : Nat → Nat → Int) (L : List M7) : Prop :=
  (∀ m ∈ L, wfm m) ∧
  (∀ i : Nat, i < 4 → rqA (R i 0) (R i 1) (R i 3) (R i 5) (R i 6) (L.countP (pG i)) (L.countP (pF i)) (L.countP (pD i)) (L.countP (pX i))) ∧
  (∀ i : Nat, i < 4 → ∀ m ∈ L, lkA i (R i 0) (R i 1) (L.countP (pX i) + R i 6) m) ∧
  (∀ i : Nat, i < 4 → ∀ j : Nat, j < 16 → -1 ≤ W i j ∧ L.countP (pP i j) = (if W i j = -1 then 0 else 1) ∧ (W i j ≠ -1 → S i j = 0 ∧ R i 0 ≠ (j : Int))) ∧
  (∀ i : Nat, i < 4 → K i 8 = (((List.range 16).countP (fun j => decide (W i j ≠ -1)) : Nat) : Int) ∧ K i 8 ≤ K i 10 ∧ K i 10 ≤ 2) ∧
  (∀ i : Nat, i < 4 → ordA (O i) (S i) (R i 0) (K i 9)) ∧
  (∀ i : Nat, i < 4 → ∀ j : Nat, j < 16 → valA (S i j) (V i j) (R i 0) (R i 1) j) ∧
  (∀ i : Nat, i < 4 → R i 0 ≠ -1 → (R i 1 = 1 → 0 ≤ R i 2) ∧ (R i 3 = 1 → R i 1 = 0 → 0 ≤ R i 4)) ∧
  (∀ j : Nat, j < 16 → (H j 6 = 0 ∨ H j 6 = 1) ∧ s4 (fun i => bzA (R i 0) (L.countP (pG i)) j) + L.countP (pN j) = H j 6) ∧
  (∀ j : Nat, j < 16 → 0 ≤ H j 3 ∧ 0 ≤ H j 5 ∧ H j 5 < 16 ∧ -1 ≤ H j 4 ∧ H j 4 < 4) ∧
  (∀ i : Nat, i < 4 → ∀ j : Nat, j < 16 → H j 4 = (i : Int) → hdA (S i j) (L.countP (pU i j)) ∨ (R i 0 = (j : Int) ∧ R i 1 = 1 ∧ L.countP (pG i) = 0)) ∧
  (∀ i : Nat, i < 4 → ∀ j : Nat, j < 16 → ∀ m ∈ L, (kd m = 8 ∨ kd m = 9) → tt m = (i : Int) → ln m = (j : Int) → hdA (S i j) (L.countP (pU i j))) ∧
  (∀ m ∈ L, kd m = 9 → ∀ j : Nat, j < 16 → ln m = (j : Int) → H j 4 = rq m)
theorem cnt_c {p : M7 → Bool} {m : M7} {L : List M7} {n : Nat} (h : (if p m = true then 1 else 0) = n) : (m :: L).countP p = L.countP p + n := by rw [List.countP_cons, h]
theorem cnt_z {p : M7 → Bool} {m : M7} {L : List M7} (h : p m = false) : (m :: L).countP p = L.countP p := by rw [List.countP_cons, h]; rfl
theorem ct_get {m : M7} {c : Nat} (hk : (kd m = 1 ∨ kd m = 2)) (hf : fr m = (c : Int)) (L : List M7) : (∀ i : Nat, (m :: L).countP (pG i) = L.countP (pG i) + (if i = c then 1 else 0)) ∧ (∀ i : Nat, (m :: L).countP (pF i) = L.countP (pF i)) ∧ (∀ i : Nat, (m :: L).countP (pD i) = L.countP (pD i)) ∧ (∀ i : Nat, (m :: L).countP (pX i) = L.countP (pX i)) ∧ (∀ i k : Nat, (m :: L).countP (pP i k) = L.countP (pP i k)) ∧ (∀ i k : Nat, (m :: L).countP (pU i k) = L.countP (pU i k)) ∧ (∀ k : Nat, (m :: L).countP (pN k) = L.countP (pN k)) := by
  exact ⟨fun i => cnt_c (by rcases hk with hk | hk <;> simp only [pG, hk, hf, decide_eq_true_eq] <;> congr 1 <;> simp <;> omega), fun i => cnt_z (by rcases hk with hk | hk <;> simp [pF, hk]), fun i => cnt_z (by rcases hk with hk | hk <;> simp [pD, hk]), fun i => cnt_z (by rcases hk with hk | hk <;> simp [pX, hk]), fun i k => cnt_z (by rcases hk with hk | hk <;> simp [pP, hk]), fun i k => cnt_z (by rcases hk with hk | hk <;> simp [pU, hk]), fun k => cnt_z (by rcases hk with hk | hk <;> simp [pN, hk])⟩
theorem ct_put {m : M7} {c : Nat} {j : Nat} (hk : kd m = 3) (hf : fr m = (c : Int)) (hl : ln m = (j : Int)) (L : List M7) : (∀ i : Nat, (m :: L).countP (pG i) = L.countP (pG i)) ∧ (∀ i : Nat, (m :: L).countP (pF i) = L.countP (pF i)) ∧ (∀ i : Nat, (m :: L).countP (pD i) = L.countP (pD i)) ∧ (∀ i : Nat, (m :: L).countP (pX i) = L.countP (pX i)) ∧ (∀ i k : Nat, (m :: L).countP (pP i k) = L.countP (pP i k) + (if i = c ∧ k = j then 1 else 0)) ∧ (∀ i k : Nat, (m :: L).countP (pU i k) = L.countP (pU i k) + (if i = c ∧ k = j then 1 else 0)) ∧ (∀ k : Nat, (m :: L).countP (pN k) = L.countP (pN k)) := by
  exact ⟨fun i => cnt_z (by simp [pG, hk]), fun i => cnt_z (by simp [pF, hk]), fun i => cnt_z (by simp [pD, hk]), fun i => cnt_z (by simp [pX, hk]), fun i k => cnt_c (by simp only [pP, hk, hf, hl, decide_eq_true_eq] <;> congr 1 <;> simp <;> omega), fun i k => cnt_c (by simp only [pU, hk, hf, hl, decide_eq_true_eq] <;> congr 1 <;> simp <;> omega), fun k => cnt_z (by simp [pN, hk])⟩
theorem ct_done {m : M7} {j : Nat} (hk : kd m = 4) (hl : ln m = (j : Int)) (L : List M7) : (∀ i : Nat, (m :: L).countP (pG i) = L.countP (pG i)) ∧ (∀ i : Nat, (m :: L).countP (pF i) = L.countP (pF i)) ∧ (∀ i : Nat, (m :: L).countP (pD i) = L.countP (pD i)) ∧ (∀ i : Nat, (m :: L).countP (pX i) = L.countP (pX i)) ∧ (∀ i k : Nat, (m :: L).countP (pP i k) = L.countP (pP i k)) ∧ (∀ i k : Nat, (m :: L).countP (pU i k) = L.countP (pU i k)) ∧ (∀ k : Nat, (m :: L).countP (pN k) = L.countP (pN k) + (if k = j then 1 else 0)) := by
  exact ⟨fun i => cnt_z (by simp [pG, hk]), fun i => cnt_z (by simp [pF, hk]), fun i => cnt_z (by simp [pD, hk]), fun i => cnt_z (by simp [pX, hk]), fun i k => cnt_z (by simp [pP, hk]), fun i k => cnt_z (by simp [pU, hk]), fun k => cnt_c (by simp only [pN, hk, hl, decide_eq_true_eq] <;> congr 1 <;> simp <;> omega)⟩
theorem ct_ans {m : M7} {c : Nat} (hk : (kd m = 5 ∨ kd m = 6)) (hf : tt m = (c : Int)) (L : List M7) : (∀ i : Nat, (m :: L).countP (pG i) = L.countP (pG i)) ∧ (∀ i : Nat, (m :: L).countP (pF i) = L.countP (pF i)) ∧ (∀ i : Nat, (m :: L).countP (pD i) = L.countP (pD i) + (if i = c then 1 else 0)) ∧ (∀ i : Nat, (m :: L).countP (pX i) = L.countP (pX i)) ∧ (∀ i k : Nat, (m :: L).countP (pP i k) = L.countP (pP i k)) ∧ (∀ i k : Nat, (m :: L).countP (pU i k) = L.countP (pU i k)) ∧ (∀ k : Nat, (m :: L).countP (pN k) = L.countP (pN k)) := by
  exact ⟨fun i => cnt_z (by rcases hk with hk | hk <;> simp [pG, hk]), fun i => cnt_z (by rcases hk with hk | hk <;> simp [pF, hk]), fun i => cnt_c (by rcases hk with hk | hk <;> simp only [pD, hk, hf, decide_eq_true_eq] <;> congr 1 <;> simp <;> omega), fun i => cnt_z (by rcases hk with hk | hk <;> simp [pX, hk]), fun i k => cnt_z (by rcases hk with hk | hk <;> simp [pP, hk]), fun i k => cnt_z (by rcases hk with hk | hk <;> simp [pU, hk]), fun k => cnt_z (by rcases hk with hk | hk <;> simp [pN, hk])⟩
theorem ct_ack {m : M7} {c : Nat} (hk : kd m = 7) (hf : tt m = (c : Int)) (L : List M7) : (∀ i : Nat, (m :: L).countP (pG i) = L.countP (pG i)) ∧ (∀ i : Nat, (m :: L).countP (pF i) = L.countP (pF i)) ∧ (∀ i : Nat, (m :: L).countP (pD i) = L.countP (pD i)) ∧ (∀ i : Nat, (m :: L).countP (pX i) = L.countP (pX i) + (if i = c then 1 else 0)) ∧ (∀ i k : Nat, (m :: L).countP (pP i k) = L.countP (pP i k)) ∧ (∀ i k : Nat, (m :: L).countP (pU i k) = L.countP (pU i k)) ∧ (∀ k : Nat, (m :: L).countP (pN k) = L.countP (pN k)) := by
  exact ⟨fun i => cnt_z (by simp [pG, hk]), fun i => cnt_z (by simp [pF, hk]), fun i => cnt_z (by simp [pD, hk]), fun i => cnt_c (by simp only [pX, hk, hf, decide_eq_true_eq] <;> congr 1 <;> simp <;> omega), fun i k => cnt_z (by simp [pP, hk]), fun i k => cnt_z (by simp [pU, hk]), fun k => cnt_z (by simp [pN, hk])⟩
theorem ct_fwd {m : M7} {c : Nat} (hk : (kd m = 8 ∨ kd m = 9)) (hf : rq m = (c : Int)) (L : List M7) : (∀ i : Nat, (m :: L).countP (pG i) = L.countP (pG i)) ∧ (∀ i : Nat, (m :: L).countP (pF i) = L.countP (pF i) + (if i = c then 1 else 0)) ∧ (∀ i : Nat, (m :: L).countP (pD i) = L.countP (pD i)) ∧ (∀ i : Nat, (m :: L).countP (pX i) = L.countP (pX i)) ∧ (∀ i k : Nat, (m :: L).countP (pP i k) = L.countP (pP i k)) ∧ (∀ i k : Nat, (m :: L).countP (pU i k) = L.countP (pU i k)) ∧ (∀ k : Nat, (m :: L).countP (pN k) = L.countP (pN k)) := by
  exact ⟨fun i => cnt_z (by rcases hk with hk | hk <;> simp [pG, hk]), fun i => cnt_c (by rcases hk with hk | hk <;> simp only [pF, hk, hf, decide_eq_true_eq] <;> congr 1 <;> simp <;> omega), fun i => cnt_z (by rcases hk with hk | hk <;> simp [pD, hk]), fun i => cnt_z (by rcases hk with hk | hk <;> simp [pX, hk]), fun i k => cnt_z (by rcases hk with hk | hk <;> simp [pP, hk]), fun i k => cnt_z (by rcases hk with hk | hk <;> simp [pU, hk]), fun k => cnt_z (by rcases hk with hk | hk <;> simp [pN, hk])⟩
theorem ct_inv {m : M7} {c : Nat} (hk : kd m = 10) (hf : rq m = (c : Int)) (L : List M7) : (∀ i : Nat, (m :: L).countP (pG i) = L.countP (pG i)) ∧ (∀ i : Nat, (m :: L).countP (pF i) = L.countP (pF i)) ∧ (∀ i : Nat, (m :: L).countP (pD i) = L.countP (pD i)) ∧ (∀ i : Nat, (m :: L).countP (pX i) = L.countP (pX i) + (if i = c then 1 else 0)) ∧ (∀ i k : Nat, (m :: L).countP (pP i k) = L.countP (pP i k)) ∧ (∀ i k : Nat, (m :: L).countP (pU i k) = L.countP (pU i k)) ∧ (∀ k : Nat, (m :: L).countP (pN k) = L.countP (pN k)) := by
  exact ⟨fun i => cnt_z (by simp [pG, hk]), fun i => cnt_z (by simp [pF, hk]), fun i => cnt_z (by simp [pD, hk]), fun i => cnt_c (by simp only [pX, hk, hf, decide_eq_true_eq] <;> congr 1 <;> simp <;> omega), fun i k => cnt_z (by simp [pP, hk]), fun i k => cnt_z (by simp [pU, hk]), fun k => cnt_z (by simp [pN, hk])⟩
theorem ct_pdn {m : M7} {c : Nat} {j : Nat} (hk : kd m = 11) (hf : tt m = (c : Int)) (hl : ln m = (j : Int)) (L : List M7) : (∀ i : Nat, (m :: L).countP (pG i) = L.countP (pG i)) ∧ (∀ i : Nat, (m :: L).countP (pF i) = L.countP (pF i)) ∧ (∀ i : Nat, (m :: L).countP (pD i) = L.countP (pD i)) ∧ (∀ i : Nat, (m :: L).countP (pX i) = L.countP (pX i)) ∧ (∀ i k : Nat, (m :: L).countP (pP i k) = L.countP (pP i k) + (if i = c ∧ k = j then 1 else 0)) ∧ (∀ i k : Nat, (m :: L).countP (pU i k) = L.countP (pU i k)) ∧ (∀ k : Nat, (m :: L).countP (pN k) = L.countP (pN k)) := by
  exact ⟨fun i => cnt_z (by simp [pG, hk]), fun i => cnt_z (by simp [pF, hk]), fun i => cnt_z (by simp [pD, hk]), fun i => cnt_z (by simp [pX, hk]), fun i k => cnt_c (by simp only [pP, hk, hf, hl, decide_eq_true_eq] <;> congr 1 <;> simp <;> omega), fun i k => cnt_z (by simp [pU, hk]), fun k => cnt_z (by simp [pN, hk])⟩
theorem s4_le {f : Nat → Int} {i : Nat} (hi : i < 4) (h : ∀ k, k < 4 → 0 ≤ f k) : f i ≤ s4 f := by
  have h0 := h 0 (by omega)
  have h1 := h 1 (by omega)
  have h2 := h 2 (by omega)
  have h3 := h 3 (by omega)
  unfold s4
  rcases (show i = 0 ∨ i = 1 ∨ i = 2 ∨ i = 3 by omega) with rfl | rfl | rfl | rfl <;> omega
theorem s4_le2 {f : Nat → Int} {i k : Nat} (hi : i < 4) (hk : k < 4) (hik : i ≠ k) (h : ∀ k, k < 4 → 0 ≤ f k) : f i + f k ≤ s4 f := by
  have h0 := h 0 (by omega)
  have h1 := h 1 (by omega)
  have h2 := h 2 (by omega)
  have h3 := h 3 (by omega)
  unfold s4
  rcases (show i = 0 ∨ i = 1 ∨ i = 2 ∨ i = 3 by omega) with rfl | rfl | rfl | rfl <;> rcases (show k = 0 ∨ k = 1 ∨ k = 2 ∨ k = 3 by omega) with rfl | rfl | rfl | rfl <;> first | exact absurd rfl hik | omega
theorem s4_eq {f g : Nat → Int} {c : Nat} (hc : c < 4) (h : ∀ k, k < 4 → k ≠ c → f k = g k) : s4 f + g c = s4 g + f c := by
  have h0 := h 0 (by omega)
  have h1 := h 1 (by omega)
  have h2 := h 2 (by omega)
  have h3 := h 3 (by omega)
  unfold s4
  rcases (show c = 0 ∨ c = 1 ∨ c = 2 ∨ c = 3 by omega) with rfl | rfl | rfl | rfl <;> simp at h0 h1 h2 h3 <;> omega
theorem s4_congr {f g : Nat → Int} (h : ∀ k, k < 4 → f k = g k) : s4 f = s4 g := by
  unfold s4
  rw [h 0 (by omega), h 1 (by omega), h 2 (by omega), h 3 (by omega)]
theorem bz_pos (r0 : Int) (g j : Nat) : 0 ≤ bzA r0 g j := by
  unfold bzA
  split <;> omega
theorem cnt_no {p : M7 → Bool} {L : List M7} {m : M7} (h : L.countP p = 0) (hm : m ∈ L) : p m = false := by
  have := List.countP_eq_zero.mp h m hm
  simpa using this
theorem cnt_yes {p : M7 → Bool} {L : List M7} {m : M7} (hm : m ∈ L) (h : p m = true) : 0 < L.countP p := List.countP_pos_iff.mpr ⟨m, hm, h⟩
theorem cnt_UP {i j : Nat} {L : List M7} : L.countP (pU i j) ≤ L.countP (pP i j) := List.countP_mono_left (fun m _ h => by
  unfold pU at h
  unfold pP
  simp only [decide_eq_true_eq] at h ⊢
  exact Or.inl h)
section PINV
variable {R K S V W : Nat → Nat → Int} {O : Nat → List Nat} {H : Nat → Nat → Int} {L : List M7} {m o : M7} {c j d : Nat}
theorem InvC.perm {L' : List M7} (hp : L.Perm L') (h : InvC R K S V W O H L) : InvC R K S V W O H L' := by
  unfold InvC at h ⊢
  simp only [hp.countP_eq, hp.mem_iff] at h
  exact h
/-- a forward for a line: the home is busy with its request -/
theorem InvC.fwd (h : InvC R K S V W O H L) (hj : j < 16) (hm : m ∈ L) (hk : kd m = 8 ∨ kd m = 9) (hl : ln m = (j : Int)) : ∃ i : Nat, i < 4 ∧ rq m = (i : Int) ∧ R i 0 = (j : Int) ∧ L.countP (pG i) = 0 ∧ L.countP (pF i) = 1 ∧ bzA (R i 0) (L.countP (pG i)) j = 1 ∧ H j 6 = 1 := by
  obtain ⟨a0, a1, a2, a3, a4, a5, a6, a7, a8, a9, b0, b1, b2⟩ := h
  have q := (a0 m hm).2.2.2.1 (by omega)
  obtain ⟨i, hi⟩ : ∃ i : Nat, rq m = (i : Int) := ⟨(rq m).toNat, by omega⟩
  have hi4 : i < 4 := by omega
  have hF : 0 < L.countP (pF i) := cnt_yes hm (by simp [pF, hk, hi])
  have q1 := a1 i hi4
  have q2 := ((a2 i hi4 m hm).2.1 hk hi).1
  have q3 := a8 j hj
  have q4 : bzA (R i 0) (L.countP (pG i)) j ≤ s4 (fun i => bzA (R i 0) (L.countP (pG i)) j) := s4_le (f := fun i => bzA (R i 0) (L.countP (pG i)) j) hi4 (fun k _ => bz_pos _ _ _)
  unfold rqA at q1
  have g0 : L.countP (pG i) = 0 := by omega
  have f1 : L.countP (pF i) = 1 := by omega
  have r0 : R i 0 = (j : Int) := by omega
  have z : bzA (R i 0) (L.countP (pG i)) j = 1 := by
    unfold bzA
    rw [if_pos ⟨r0, g0⟩]
  exact ⟨i, hi4, hi, r0, g0, f1, z, by omega⟩
/-- the owner of a line that is not busy has it, or is writing it back -/
theorem InvC.own (h : InvC R K S V W O H L) (hj : j < 16) (hb : H j 6 = 0) (hd : d < 4) (ho : H j 4 = (d : Int)) : hdA (S d j) (L.countP (pU d j)) := by
  obtain ⟨a0, a1, a2, a3, a4, a5, a6, a7, a8, a9, b0, b1, b2⟩ := h
  rcases b0 d hd j hj ho with q | ⟨q1, q2, q3⟩
  · exact q
  · have q4 : bzA (R d 0) (L.countP (pG d)) j ≤ s4 (fun i => bzA (R i 0) (L.countP (pG i)) j) := s4_le (f := fun i => bzA (R i 0) (L.countP (pG i)) j) hd (fun k _ => bz_pos _ _ _)
    have z : bzA (R d 0) (L.countP (pG d)) j = 1 := by
      unfold bzA
      rw [if_pos ⟨q1, q3⟩]
    have := (a8 j hj).2
    omega
/-- the home's sum, when a request of c is processed -/
theorem bz_get {G : Nat → Nat} {k : Nat} (hc : c < 4) (hr : R c 0 = (j : Int)) (hg : G c = 0) : s4 (fun i => bzA (R i 0) (G i + if i = c then 1 else 0) k) + (if k = j then 1 else 0) = s4 (fun i => bzA (R i 0) (G i) k) := by
  have e := s4_eq (f := fun i => bzA (R i 0) (G i + if i = c then 1 else 0) k) (g := fun i => bzA (R i 0) (G i) k) hc (fun i hi hic => by simp [hic])
  have e1 : bzA (R c 0) (G c + if c = c then 1 else 0) k = 0 := by
    unfold bzA
    rw [if_neg]
    simp
  have e2 : bzA (R c 0) (G c) k = if k = j then 1 else 0 := by
    unfold bzA
    rw [hr, hg]
    by_cases hkj : k = j
    · simp [hkj]
    · rw [if_neg (by omega), if_neg hkj]
  have e : s4 (fun i => bzA (R i 0) (G i + if i = c then 1 else 0) k) + bzA (R c 0) (G c) k = s4 (fun i => bzA (R i 0) (G i) k) + bzA (R c 0) (G c + if c = c then 1 else 0) k := e
  rw [e1, e2] at e
  omega
theorem lk_get {i : Nat} {r0 r1 x6 : Int} (hk : kd o = 1 ∨ kd o = 2) (hf : fr o = (c : Int)) (h : i = c → ln o = r0 ∧ r1 = kd o - 1) : lkA i r0 r1 x6 o := by
  unfold lkA
  exact ⟨fun _ q => h (by omega), by omega, by omega, by omega, by omega⟩
theorem lk_ans {i : Nat} {r0 r1 x6 : Int} (hk : kd o = 5 ∨ kd o = 6) (hf : tt o = (c : Int)) (h : i = c → ln o = r0 ∧ cn o = x6 ∧ (kd o = 6 → r1 = 1)) : lkA i r0 r1 x6 o := by
  unfold lkA
  exact ⟨by omega, by omega, fun _ q => h (by omega), by omega, by omega⟩
theorem lk_fwd {i : Nat} {r0 r1 x6 : Int} (hk : kd o = 8 ∨ kd o = 9) (hf : rq o = (c : Int)) (h : i = c → ln o = r0 ∧ cn o = x6 ∧ (kd o = 9 → r1 = 1)) : lkA i r0 r1 x6 o := by
  unfold lkA
  exact ⟨by omega, fun _ q => h (by omega), by omega, by omega, by omega⟩
theorem lk_inv {i : Nat} {r0 r1 x6 : Int} (hk : kd o = 10) (hf : rq o = (c : Int)) (h : i = c → ln o = r0) : lkA i r0 r1 x6 o := by
  unfold lkA
  exact ⟨by omega, by omega, by omega, fun _ q => h (by omega), by omega⟩
theorem lk_ack {i : Nat} {r0 r1 x6 : Int} (hk : kd o = 7) (hf : tt o = (c : Int)) (h : i = c → ln o = r0) : lkA i r0 r1 x6 o := by
  unfold lkA
  exact ⟨by omega, by omega, by omega, by omega, fun _ q => h (by omega)⟩
theorem lk_oth {i : Nat} {r0 r1 x6 : Int} (hk : kd o = 3 ∨ kd o = 4 ∨ kd o = 11) : lkA i r0 r1 x6 o := by
  unfold lkA
  exact ⟨by omega, by omega, by omega, by omega, by omega⟩
/-- a cache without messages: the link holds with any request -/
theorem lk_none {i : Nat} {r0 r1 x6 : Int} (hm : m ∈ L) (hg : L.countP (pG i) = 0) (hf : L.countP (pF i) = 0) (hd : L.countP (pD i) = 0) (hx : L.countP (pX i) = 0) : lkA i r0 r1 x6 m := by
  have g := cnt_no hg hm
  have f := cnt_no hf hm
  have d := cnt_no hd hm
  have x := cnt_no hx hm
  simp only [pG, pF, pD, pX, decide_eq_false_iff_not] at g f d x
  unfold lkA
  exact ⟨fun a b => (g ⟨a, b⟩).elim, fun a b => (f ⟨a, b⟩).elim, fun a b => (d ⟨a, b⟩).elim, fun a b => (x (Or.inl ⟨a, b⟩)).elim, fun a b => (x (Or.inr ⟨a, b⟩)).elim⟩
set_option maxHeartbeats 1000000 in
/-- GET_SHARED is processed, there is no owner -/
theorem T_getS0 (hc : c < 4) (hj : j < 16) (h : InvC R K S V W O H (m :: L)) (hm : kd m = 1) (hf : fr m = (c : Int)) (hl : ln m = (j : Int)) (hb : H j 6 = 0) (how : H j 4 = -1)
    (ho : kd o = 5) (hol : ln o = (j : Int)) (hot : tt o = (c : Int)) (hov : vl o = H j 3) (hoc : cn o = 0) (sh : Int) (hsh : 0 ≤ sh) (hsh2 : sh < 16) : InvC R K S V W O (w2 (w2 H j 5 sh) j 6 1) (o :: L) := by
  obtain ⟨a0, a1, a2, a3, a4, a5, a6, a7, a8, a9, b0, b1, b2⟩ := h
  obtain ⟨e1, e2, e3, e4, e5, e6, e7⟩ := ct_get (Or.inl hm) hf L
  simp only [List.forall_mem_cons, e1, e2, e3, e4, e5, e6, e7] at a0 a1 a2 a3 a4 a5 a6 a7 a8 a9 b0 b1 b2
  obtain ⟨f1, f2, f3, f4, f5, f6, f7⟩ := ct_ans (Or.inl ho) hot L
  have c1 := a1 c hc
  have c2 := (a2 c hc).1.1 (Or.inl hm) hf
  unfold rqA at c1
  rw [if_pos rfl] at c1
  have hg : L.countP (pG c) = 0 := by omega
  unfold InvC
  simp only [List.forall_mem_cons, f1, f2, f3, f4, f5, f6, f7]
  refine ⟨⟨?_, a0.2⟩, ?_, ?_, a3, a4, a5, a6, a7, ?_, ?_, ?_, ?_, ?_⟩
  · have := a9 j hj
    unfold wfm
    omega
  · intro i hi
    have q := a1 i hi
    by_cases hic : i = c
    · subst hic
      unfold rqA at q ⊢
      simp only [if_true] at q ⊢
      omega
    · simp only [if_neg hic, Nat.add_zero] at q ⊢
      exact q
  · exact fun i hi => ⟨lk_ans (Or.inl ho) hot (fun e => by subst e; omega), (a2 i hi).2⟩
  · intro k hk
    have q := a8 k hk
    have e : s4 (fun i => bzA (R i 0) (L.countP (pG i) + if i = c then 1 else 0) k) + (if k = j then 1 else 0) = s4 (fun i => bzA (R i 0) (L.countP (pG i)) k) := bz_get (G := fun i => L.countP (pG i)) hc (by omega) hg
    by_cases hkj : k = j
    · rw [if_pos hkj] at e
      have w : (w2 (w2 H j 5 sh) j 6 1) k 6 = 1 := by simp [w2, hkj]
      have hb2 : H k 6 = 0 := by rw [hkj]; exact hb
      rw [w, ← e]
      exact ⟨Or.inr rfl, by omega⟩
    · rw [if_neg hkj] at e
      have w : (w2 (w2 H j 5 sh) j 6 1) k 6 = H k 6 := by simp [w2, hkj]
      rw [w, ← e]
      exact ⟨q.1, by omega⟩
  · intro k hk
    have q := a9 k hk
    unfold w2
    by_cases hkj : k = j <;> simp [hkj] <;> grind
  · intro i hi k hk hw
    have q := b0 i hi k hk
    unfold w2 at hw
    grind
  · intro i hi k hk
    have q := b1 i hi k hk
    grind
  · unfold w2
    grind

set_option maxHeartbeats 1000000 in
/-- GET_SHARED is processed, d is the owner -/
theorem T_getS1 (hc : c < 4) (hj : j < 16) (h : InvC R K S V W O H (m :: L)) (hm : kd m = 1) (hf : fr m = (c : Int)) (hl : ln m = (j : Int)) (hb : H j 6 = 0) (hd : d < 4) (how : H j 4 = (d : Int))
    (ho : kd o = 8) (hol : ln o = (j : Int)) (hot : tt o = (d : Int)) (hor : rq o = (c : Int)) (hoc : cn o = 0) (sh : Int) (hsh : 0 ≤ sh) (hsh2 : sh < 16) : InvC R K S V W O (w2 (w2 H j 5 sh) j 6 1) (o :: L) := by
  have hown := h.own hj hb hd how
  obtain ⟨a0, a1, a2, a3, a4, a5, a6, a7, a8, a9, b0, b1, b2⟩ := h
  obtain ⟨e1, e2, e3, e4, e5, e6, e7⟩ := ct_get (Or.inl hm) hf L
  simp only [List.forall_mem_cons, e1, e2, e3, e4, e5, e6, e7] at a0 a1 a2 a3 a4 a5 a6 a7 a8 a9 b0 b1 b2
  rw [e6] at hown
  obtain ⟨f1, f2, f3, f4, f5, f6, f7⟩ := ct_fwd (Or.inl ho) hor L
  have c1 := a1 c hc
  have c2 := (a2 c hc).1.1 (Or.inl hm) hf
  unfold rqA at c1
  rw [if_pos rfl] at c1
  have hg : L.countP (pG c) = 0 := by omega
  unfold InvC
  simp only [List.forall_mem_cons, f1, f2, f3, f4, f5, f6, f7]
  refine ⟨⟨?_, a0.2⟩, ?_, ?_, a3, a4, a5, a6, a7, ?_, ?_, ?_, ?_, ?_⟩
  · unfold wfm
    omega
  · intro i hi
    have q := a1 i hi
    by_cases hic : i = c
    · subst hic
      unfold rqA at q ⊢
      simp only [if_true] at q ⊢
      omega
    · simp only [if_neg hic, Nat.add_zero] at q ⊢
      exact q
  · exact fun i hi => ⟨lk_fwd (Or.inl ho) hor (fun e => by subst e; omega), (a2 i hi).2⟩
  · intro k hk
    have q := a8 k hk
    have e : s4 (fun i => bzA (R i 0) (L.countP (pG i) + if i = c then 1 else 0) k) + (if k = j then 1 else 0) = s4 (fun i => bzA (R i 0) (L.countP (pG i)) k) := bz_get (G := fun i => L.countP (pG i)) hc (by omega) hg
    by_cases hkj : k = j
    · rw [if_pos hkj] at e
      have w : (w2 (w2 H j 5 sh) j 6 1) k 6 = 1 := by simp [w2, hkj]
      have hb2 : H k 6 = 0 := by rw [hkj]; exact hb
      rw [w, ← e]
      exact ⟨Or.inr rfl, by omega⟩
    · rw [if_neg hkj] at e
      have w : (w2 (w2 H j 5 sh) j 6 1) k 6 = H k 6 := by simp [w2, hkj]
      rw [w, ← e]
      exact ⟨q.1, by omega⟩
  · intro k hk
    have q := a9 k hk
    unfold w2
    by_cases hkj : k = j <;> simp [hkj] <;> grind
  · intro i hi k hk hw
    have q := b0 i hi k hk
    unfold w2 at hw
    grind
  · intro i hi k hk
    refine ⟨fun _ q1 q2 => ?_, (b1 i hi k hk).2⟩
    obtain rfl : i = d := by omega
    obtain rfl : k = j := by omega
    exact hown
  · refine ⟨fun q => by omega, fun m' hm' h9 k hk hl' => ?_⟩
    have := b2.2 m' hm' h9 k hk hl'
    unfold w2
    simp [this]

theorem ct_invs {ivs : List M7} (hi : ∀ x ∈ ivs, kd x = 10 ∧ rq x = (c : Int)) (L : List M7) : (∀ i : Nat, (ivs ++ L).countP (pG i) = L.countP (pG i)) ∧ (∀ i : Nat, (ivs ++ L).countP (pF i) = L.countP (pF i)) ∧ (∀ i : Nat, (ivs ++ L).countP (pD i) = L.countP (pD i)) ∧ (∀ i : Nat, (ivs ++ L).countP (pX i) = L.countP (pX i) + (if i = c then ivs.length else 0)) ∧ (∀ i k : Nat, (ivs ++ L).countP (pP i k) = L.countP (pP i k)) ∧ (∀ i k : Nat, (ivs ++ L).countP (pU i k) = L.countP (pU i k)) ∧ (∀ k : Nat, (ivs ++ L).countP (pN k) = L.countP (pN k)) := by
  induction ivs with
  | nil => simp
  | cons x xs ih =>
    obtain ⟨g1, g2, g3, g4, g5, g6, g7⟩ := ih (fun y hy => hi y (List.mem_cons_of_mem _ hy))
    obtain ⟨q1, q2⟩ := hi x List.mem_cons_self
    obtain ⟨e1, e2, e3, e4, e5, e6, e7⟩ := ct_inv q1 q2 (xs ++ L)
    refine ⟨fun i => by rw [List.cons_append, e1, g1], fun i => by rw [List.cons_append, e2, g2], fun i => by rw [List.cons_append, e3, g3], fun i => ?_, fun i k => by rw [List.cons_append, e5, g5], fun i k => by rw [List.cons_append, e6, g6], fun k => by rw [List.cons_append, e7, g7]⟩
    rw [List.cons_append, e4, g4, List.length_cons]
    split <;> omega

set_option maxHeartbeats 1000000 in
/-- GET_MODIFIED is processed: no owner -/
theorem T_getM0 (hc : c < 4) (hj : j < 16) (h : InvC R K S V W O H (m :: L)) (hm : kd m = 2) (hf : fr m = (c : Int)) (hl : ln m = (j : Int)) (hb : H j 6 = 0) (how : H j 4 = -1)
    (ivs : List M7) (hiv : ∀ x ∈ ivs, kd x = 10 ∧ rq x = (c : Int)) (hiw : ∀ x ∈ ivs, ln x = (j : Int) ∧ 0 ≤ tt x ∧ tt x < 4) (hil : ivs.length ≤ 4) (ho : kd o = 5) (hot : tt o = (c : Int)) (hov : vl o = H j 3) (hol : ln o = (j : Int)) (hoc : cn o = (ivs.length : Int)) : InvC R K S V W O (w2 (w2 (w2 H j 4 (c : Int)) j 5 0) j 6 1) (o :: (ivs ++ L)) := by
  have hno : ∀ x ∈ m :: L, (kd x = 8 ∨ kd x = 9) → ln x ≠ (j : Int) := fun x hx hk hl => by
    obtain ⟨_, _, _, _, _, _, _, q⟩ := h.fwd hj hx hk hl
    omega
  obtain ⟨a0, a1, a2, a3, a4, a5, a6, a7, a8, a9, b0, b1, b2⟩ := h
  obtain ⟨e1, e2, e3, e4, e5, e6, e7⟩ := ct_get (Or.inr hm) hf L
  simp only [List.forall_mem_cons, e1, e2, e3, e4, e5, e6, e7] at a0 a1 a2 a3 a4 a5 a6 a7 a8 a9 b0 b1 b2
  obtain ⟨g1, g2, g3, g4, g5, g6, g7⟩ := ct_invs hiv L
  obtain ⟨f1, f2, f3, f4, f5, f6, f7⟩ := ct_ans (Or.inl ho) hot (ivs ++ L)
  have c1 := a1 c hc
  have c2 := (a2 c hc).1.1 (Or.inr hm) hf
  unfold rqA at c1
  rw [if_pos rfl] at c1
  have hg : L.countP (pG c) = 0 := by omega
  unfold InvC
  simp only [List.forall_mem_cons, List.forall_mem_append, f1, f2, f3, f4, f5, f6, f7, g1, g2, g3, g4, g5, g6, g7]
  refine ⟨⟨?_, ?_, a0.2⟩, ?_, ?_, a3, a4, a5, a6, a7, ?_, ?_, ?_, ?_, ?_⟩
  · have := a9 j hj
    unfold wfm
    omega
  · intro x hx
    have q1 := hiv x hx
    have q2 := hiw x hx
    unfold wfm
    omega
  · intro i hi
    have q := a1 i hi
    by_cases hic : i = c
    · subst hic
      unfold rqA at q ⊢
      simp only [if_true] at q ⊢
      omega
    · simp only [if_neg hic, Nat.add_zero] at q ⊢
      exact q
  · refine fun i hi => ⟨lk_ans (Or.inl ho) hot (fun e => by subst e; simp only [if_true]; omega), fun x hx => lk_inv (hiv x hx).1 (hiv x hx).2 (fun e => by subst e; have := hiw x hx; omega), fun x hx => ?_⟩
    by_cases hic : i = c
    · subst hic
      exact lk_none hx hg (by omega) (by omega) (by omega)
    · have q := (a2 i hi).2 x hx
      simp only [if_neg hic, Nat.add_zero] at q ⊢
      exact q
  · intro k hk
    have q := a8 k hk
    have e : s4 (fun i => bzA (R i 0) (L.countP (pG i) + if i = c then 1 else 0) k) + (if k = j then 1 else 0) = s4 (fun i => bzA (R i 0) (L.countP (pG i)) k) := bz_get (G := fun i => L.countP (pG i)) hc (by omega) hg
    by_cases hkj : k = j
    · rw [if_pos hkj] at e
      have w : (w2 (w2 (w2 H j 4 (c : Int)) j 5 0) j 6 1) k 6 = 1 := by simp [w2, hkj]
      have hb2 : H k 6 = 0 := by rw [hkj]; exact hb
      rw [w, ← e]
      exact ⟨Or.inr rfl, by omega⟩
    · rw [if_neg hkj] at e
      have w : (w2 (w2 (w2 H j 4 (c : Int)) j 5 0) j 6 1) k 6 = H k 6 := by simp [w2, hkj]
      rw [w, ← e]
      exact ⟨q.1, by omega⟩
  · intro k hk
    have q := a9 k hk
    unfold w2
    by_cases hkj : k = j
    · subst hkj
      simp
      omega
    · simp [hkj]
      omega
  · intro i hi k hk hw
    have q := b0 i hi k hk
    unfold w2 at hw
    by_cases hkj : k = j
    · subst hkj
      simp at hw
      obtain rfl : i = c := by omega
      exact Or.inr (by omega)
    · simp [hkj] at hw
      rcases q hw with q | q
      · exact Or.inl q
      · exact Or.inr (by omega)
  · intro i hi k hk
    refine ⟨fun q => by omega, fun x hx hx8 => ?_, (b1 i hi k hk).2⟩
    have := (hiv x hx).1
    omega
  · refine ⟨fun q => by omega, fun x hx hx8 => ?_, fun x hx h9 k hk hl' => ?_⟩
    · have := (hiv x hx).1
      omega
    · have q := b2.2 x hx h9 k hk hl'
      have hkj : k ≠ j := fun e => hno x (List.mem_cons_of_mem _ hx) (Or.inr h9) (by omega)
      unfold w2
      simp [hkj, q]

set_option maxHeartbeats 1000000 in
/-- GET_MODIFIED is processed: the owner asks -/
theorem T_getM1 (hc : c < 4) (hj : j < 16) (h : InvC R K S V W O H (m :: L)) (hm : kd m = 2) (hf : fr m = (c : Int)) (hl : ln m = (j : Int)) (hb : H j 6 = 0) (how : H j 4 = (c : Int))
    (ivs : List M7) (hiv : ∀ x ∈ ivs, kd x = 10 ∧ rq x = (c : Int)) (hiw : ∀ x ∈ ivs, ln x = (j : Int) ∧ 0 ≤ tt x ∧ tt x < 4) (hil : ivs.length ≤ 4) (ho : kd o = 6) (hot : tt o = (c : Int)) (hol : ln o = (j : Int)) (hoc : cn o = (ivs.length : Int)) : InvC R K S V W O (w2 (w2 (w2 H j 4 (c : Int)) j 5 0) j 6 1) (o :: (ivs ++ L)) := by
  have hno : ∀ x ∈ m :: L, (kd x = 8 ∨ kd x = 9) → ln x ≠ (j : Int) := fun x hx hk hl => by
    obtain ⟨_, _, _, _, _, _, _, q⟩ := h.fwd hj hx hk hl
    omega
  obtain ⟨a0, a1, a2, a3, a4, a5, a6, a7, a8, a9, b0, b1, b2⟩ := h
  obtain ⟨e1, e2, e3, e4, e5, e6, e7⟩ := ct_get (Or.inr hm) hf L
  simp only [List.forall_mem_cons, e1, e2, e3, e4, e5, e6, e7] at a0 a1 a2 a3 a4 a5 a6 a7 a8 a9 b0 b1 b2
  obtain ⟨g1, g2, g3, g4, g5, g6, g7⟩ := ct_invs hiv L
  obtain ⟨f1, f2, f3, f4, f5, f6, f7⟩ := ct_ans (Or.inr ho) hot (ivs ++ L)
  have c1 := a1 c hc
  have c2 := (a2 c hc).1.1 (Or.inr hm) hf
  unfold rqA at c1
  rw [if_pos rfl] at c1
  have hg : L.countP (pG c) = 0 := by omega
  unfold InvC
  simp only [List.forall_mem_cons, List.forall_mem_append, f1, f2, f3, f4, f5, f6, f7, g1, g2, g3, g4, g5, g6, g7]
  refine ⟨⟨?_, ?_, a0.2⟩, ?_, ?_, a3, a4, a5, a6, a7, ?_, ?_, ?_, ?_, ?_⟩
  · unfold wfm
    omega
  · intro x hx
    have q1 := hiv x hx
    have q2 := hiw x hx
    unfold wfm
    omega
  · intro i hi
    have q := a1 i hi
    by_cases hic : i = c
    · subst hic
      unfold rqA at q ⊢
      simp only [if_true] at q ⊢
      omega
    · simp only [if_neg hic, Nat.add_zero] at q ⊢
      exact q
  · refine fun i hi => ⟨lk_ans (Or.inr ho) hot (fun e => by subst e; simp only [if_true]; omega), fun x hx => lk_inv (hiv x hx).1 (hiv x hx).2 (fun e => by subst e; have := hiw x hx; omega), fun x hx => ?_⟩
    by_cases hic : i = c
    · subst hic
      exact lk_none hx hg (by omega) (by omega) (by omega)
    · have q := (a2 i hi).2 x hx
      simp only [if_neg hic, Nat.add_zero] at q ⊢
      exact q
  · intro k hk
    have q := a8 k hk
    have e : s4 (fun i => bzA (R i 0) (L.countP (pG i) + if i = c then 1 else 0) k) + (if k = j then 1 else 0) = s4 (fun i => bzA (R i 0) (L.countP (pG i)) k) := bz_get (G := fun i => L.countP (pG i)) hc (by omega) hg
    by_cases hkj : k = j
    · rw [if_pos hkj] at e
      have w : (w2 (w2 (w2 H j 4 (c : Int)) j 5 0) j 6 1) k 6 = 1 := by simp [w2, hkj]
      have hb2 : H k 6 = 0 := by rw [hkj]; exact hb
      rw [w, ← e]
      exact ⟨Or.inr rfl, by omega⟩
    · rw [if_neg hkj] at e
      have w : (w2 (w2 (w2 H j 4 (c : Int)) j 5 0) j 6 1) k 6 = H k 6 := by simp [w2, hkj]
      rw [w, ← e]
      exact ⟨q.1, by omega⟩
  · intro k hk
    have q := a9 k hk
    unfold w2
    by_cases hkj : k = j
    · subst hkj
      simp
      omega
    · simp [hkj]
      omega
  · intro i hi k hk hw
    have q := b0 i hi k hk
    unfold w2 at hw
    by_cases hkj : k = j
    · subst hkj
      simp at hw
      obtain rfl : i = c := by omega
      exact Or.inr (by omega)
    · simp [hkj] at hw
      rcases q hw with q | q
      · exact Or.inl q
      · exact Or.inr (by omega)
  · intro i hi k hk
    refine ⟨fun q => by omega, fun x hx hx8 => ?_, (b1 i hi k hk).2⟩
    have := (hiv x hx).1
    omega
  · refine ⟨fun q => by omega, fun x hx hx8 => ?_, fun x hx h9 k hk hl' => ?_⟩
    · have := (hiv x hx).1
      omega
    · have q := b2.2 x hx h9 k hk hl'
      have hkj : k ≠ j := fun e => hno x (List.mem_cons_of_mem _ hx) (Or.inr h9) (by omega)
      unfold w2
      simp [hkj, q]

set_option maxHeartbeats 1000000 in
/-- GET_MODIFIED is processed: d is the owner -/
theorem T_getM2 (hc : c < 4) (hj : j < 16) (h : InvC R K S V W O H (m :: L)) (hm : kd m = 2) (hf : fr m = (c : Int)) (hl : ln m = (j : Int)) (hb : H j 6 = 0) (hd : d < 4) (how : H j 4 = (d : Int))
    (ivs : List M7) (hiv : ∀ x ∈ ivs, kd x = 10 ∧ rq x = (c : Int)) (hiw : ∀ x ∈ ivs, ln x = (j : Int) ∧ 0 ≤ tt x ∧ tt x < 4) (hil : ivs.length ≤ 4) (ho : kd o = 9) (hot : tt o = (d : Int)) (hor : rq o = (c : Int)) (hol : ln o = (j : Int)) (hoc : cn o = (ivs.length : Int)) : InvC R K S V W O (w2 (w2 (w2 H j 4 (c : Int)) j 5 0) j 6 1) (o :: (ivs ++ L)) := by
  have hown := h.own hj hb hd how
  have hno : ∀ x ∈ m :: L, (kd x = 8 ∨ kd x = 9) → ln x ≠ (j : Int) := fun x hx hk hl => by
    obtain ⟨_, _, _, _, _, _, _, q⟩ := h.fwd hj hx hk hl
    omega
  obtain ⟨a0, a1, a2, a3, a4, a5, a6, a7, a8, a9, b0, b1, b2⟩ := h
  obtain ⟨e1, e2, e3, e4, e5, e6, e7⟩ := ct_get (Or.inr hm) hf L
  simp only [List.forall_mem_cons, e1, e2, e3, e4, e5, e6, e7] at a0 a1 a2 a3 a4 a5 a6 a7 a8 a9 b0 b1 b2
  rw [e6] at hown
  obtain ⟨g1, g2, g3, g4, g5, g6, g7⟩ := ct_invs hiv L
  obtain ⟨f1, f2, f3, f4, f5, f6, f7⟩ := ct_fwd (Or.inr ho) hor (ivs ++ L)
  have c1 := a1 c hc
  have c2 := (a2 c hc).1.1 (Or.inr hm) hf
  unfold rqA at c1
  rw [if_pos rfl] at c1
  have hg : L.countP (pG c) = 0 := by omega
  unfold InvC
  simp only [List.forall_mem_cons, List.forall_mem_append, f1, f2, f3, f4, f5, f6, f7, g1, g2, g3, g4, g5, g6, g7]
  refine ⟨⟨?_, ?_, a0.2⟩, ?_, ?_, a3, a4, a5, a6, a7, ?_, ?_, ?_, ?_, ?_⟩
  · unfold wfm
    omega
  · intro x hx
    have q1 := hiv x hx
    have q2 := hiw x hx
    unfold wfm
    omega
  · intro i hi
    have q := a1 i hi
    by_cases hic : i = c
    · subst hic
      unfold rqA at q ⊢
      simp only [if_true] at q ⊢
      omega
    · simp only [if_neg hic, Nat.add_zero] at q ⊢
      exact q
  · refine fun i hi => ⟨lk_fwd (Or.inr ho) hor (fun e => by subst e; simp only [if_true]; omega), fun x hx => lk_inv (hiv x hx).1 (hiv x hx).2 (fun e => by subst e; have := hiw x hx; omega), fun x hx => ?_⟩
    by_cases hic : i = c
    · subst hic
      exact lk_none hx hg (by omega) (by omega) (by omega)
    · have q := (a2 i hi).2 x hx
      simp only [if_neg hic, Nat.add_zero] at q ⊢
      exact q
  · intro k hk
    have q := a8 k hk
    have e : s4 (fun i => bzA (R i 0) (L.countP (pG i) + if i = c then 1 else 0) k) + (if k = j then 1 else 0) = s4 (fun i => bzA (R i 0) (L.countP (pG i)) k) := bz_get (G := fun i => L.countP (pG i)) hc (by omega) hg
    by_cases hkj : k = j
    · rw [if_pos hkj] at e
      have w : (w2 (w2 (w2 H j 4 (c : Int)) j 5 0) j 6 1) k 6 = 1 := by simp [w2, hkj]
      have hb2 : H k 6 = 0 := by rw [hkj]; exact hb
      rw [w, ← e]
      exact ⟨Or.inr rfl, by omega⟩
    · rw [if_neg hkj] at e
      have w : (w2 (w2 (w2 H j 4 (c : Int)) j 5 0) j 6 1) k 6 = H k 6 := by simp [w2, hkj]
      rw [w, ← e]
      exact ⟨q.1, by omega⟩
  · intro k hk
    have q := a9 k hk
    unfold w2
    by_cases hkj : k = j
    · subst hkj
      simp
      omega
    · simp [hkj]
      omega
  · intro i hi k hk hw
    have q := b0 i hi k hk
    unfold w2 at hw
    by_cases hkj : k = j
    · subst hkj
      simp at hw
      obtain rfl : i = c := by omega
      exact Or.inr (by omega)
    · simp [hkj] at hw
      rcases q hw with q | q
      · exact Or.inl q
      · exact Or.inr (by omega)
  · intro i hi k hk
    refine ⟨fun _ q1 q2 => by
      obtain rfl : i = d := by omega
      obtain rfl : k = j := by omega
      exact hown, fun x hx hx8 => ?_, (b1 i hi k hk).2⟩
    have := (hiv x hx).1
    omega
  · refine ⟨fun _ k hk q1 => by
      obtain rfl : k = j := by omega
      unfold w2
      simp [hor], fun x hx hx8 => ?_, fun x hx h9 k hk hl' => ?_⟩
    · have := (hiv x hx).1
      omega
    · have q := b2.2 x hx h9 k hk hl'
      have hkj : k ≠ j := fun e => hno x (List.mem_cons_of_mem _ hx) (Or.inr h9) (by omega)
      unfold w2
      simp [hkj, q]

set_option maxHeartbeats 1000000 in
/-- PUT is processed: the sender is the owner -/
theorem T_put1 (hc : c < 4) (hj : j < 16) (h : InvC R K S V W O H (m :: L)) (hm : kd m = 3) (hf : fr m = (c : Int)) (hl : ln m = (j : Int)) (hb : H j 6 = 0) (how : H j 4 = (c : Int)) (sh : Int) (hsh : 0 ≤ sh) (hsh2 : sh < 16)
    (ho : kd o = 11) (hol : ln o = (j : Int)) (hot : tt o = (c : Int)) : InvC R K S V W O (w2 (w2 (w2 H j 3 (vl m)) j 4 (-1)) j 5 sh) (o :: L) := by
  have hno : ∀ x ∈ m :: L, (kd x = 8 ∨ kd x = 9) → ln x ≠ (j : Int) := fun x hx hk hl => by
    obtain ⟨_, _, _, _, _, _, _, q⟩ := h.fwd hj hx hk hl
    omega
  obtain ⟨a0, a1, a2, a3, a4, a5, a6, a7, a8, a9, b0, b1, b2⟩ := h
  obtain ⟨e1, e2, e3, e4, e5, e6, e7⟩ := ct_put hm hf hl L
  simp only [List.forall_mem_cons, e1, e2, e3, e4, e5, e6, e7] at a0 a1 a2 a3 a4 a5 a6 a7 a8 a9 b0 b1 b2
  obtain ⟨f1, f2, f3, f4, f5, f6, f7⟩ := ct_pdn ho hot hol L
  unfold InvC
  simp only [List.forall_mem_cons, f1, f2, f3, f4, f5, f6, f7]
  have w := a0.1
  unfold wfm at w
  refine ⟨⟨?_, a0.2⟩, a1, fun i hi => ⟨lk_oth (Or.inr (Or.inr ho)), (a2 i hi).2⟩, a3, a4, a5, a6, a7, ?_, ?_, ?_, ?_, ?_⟩
  · unfold wfm
    omega
  · intro k hk
    have q := a8 k hk
    have w : (w2 (w2 (w2 H j 3 (vl m)) j 4 (-1)) j 5 sh) k 6 = H k 6 := by simp [w2]
    rw [w]
    exact q
  · intro k hk
    have q := a9 k hk
    unfold w2
    by_cases hkj : k = j
    · subst hkj
      simp
      omega
    · simp [hkj]
      omega
  · intro i hi k hk hw
    unfold w2 at hw
    by_cases hkj : k = j
    · subst hkj
      simp at hw
    · simp [hkj] at hw
      have q := b0 i hi k hk hw
      simp only [hkj, and_false, if_false, Nat.add_zero] at q
      exact q
  · intro i hi k hk
    refine ⟨fun q => by omega, fun x hx h8 q1 q2 => ?_⟩
    have q := (b1 i hi k hk).2 x hx h8 q1 q2
    have hkj : k ≠ j := fun e => hno x (List.mem_cons_of_mem _ hx) h8 (by omega)
    simp only [hkj, and_false, if_false, Nat.add_zero] at q
    exact q
  · refine ⟨fun q => by omega, fun x hx h9 k hk hl' => ?_⟩
    have q := b2.2 x hx h9 k hk hl'
    have hkj : k ≠ j := fun e => hno x (List.mem_cons_of_mem _ hx) (Or.inr h9) (by omega)
    unfold w2
    simp [hkj, q]

set_option maxHeartbeats 1000000 in
/-- PUT is processed: the sender is not the owner -/
theorem T_put0 (hc : c < 4) (hj : j < 16) (h : InvC R K S V W O H (m :: L)) (hm : kd m = 3) (hf : fr m = (c : Int)) (hl : ln m = (j : Int)) (hb : H j 6 = 0) (how : H j 4 ≠ (c : Int))
    (ho : kd o = 11) (hol : ln o = (j : Int)) (hot : tt o = (c : Int)) : InvC R K S V W O H (o :: L) := by
  have hno : ∀ x ∈ m :: L, (kd x = 8 ∨ kd x = 9) → ln x ≠ (j : Int) := fun x hx hk hl => by
    obtain ⟨_, _, _, _, _, _, _, q⟩ := h.fwd hj hx hk hl
    omega
  obtain ⟨a0, a1, a2, a3, a4, a5, a6, a7, a8, a9, b0, b1, b2⟩ := h
  obtain ⟨e1, e2, e3, e4, e5, e6, e7⟩ := ct_put hm hf hl L
  simp only [List.forall_mem_cons, e1, e2, e3, e4, e5, e6, e7] at a0 a1 a2 a3 a4 a5 a6 a7 a8 a9 b0 b1 b2
  obtain ⟨f1, f2, f3, f4, f5, f6, f7⟩ := ct_pdn ho hot hol L
  unfold InvC
  simp only [List.forall_mem_cons, f1, f2, f3, f4, f5, f6, f7]
  have w := a0.1
  unfold wfm at w
  refine ⟨⟨?_, a0.2⟩, a1, fun i hi => ⟨lk_oth (Or.inr (Or.inr ho)), (a2 i hi).2⟩, a3, a4, a5, a6, a7, ?_, ?_, ?_, ?_, ?_⟩
  · unfold wfm
    omega
  · intro k hk
    have q := a8 k hk
    exact q
  · intro k hk
    have q := a9 k hk
    exact q
  · intro i hi k hk hw
    have q := b0 i hi k hk hw
    by_cases hkj : k = j
    · subst hkj
      have hic : i ≠ c := fun e => how (by omega)
      simp only [hic, false_and, if_false, Nat.add_zero] at q
      exact q
    · simp only [hkj, and_false, if_false, Nat.add_zero] at q
      exact q
  · intro i hi k hk
    refine ⟨fun q => by omega, fun x hx h8 q1 q2 => ?_⟩
    have q := (b1 i hi k hk).2 x hx h8 q1 q2
    have hkj : k ≠ j := fun e => hno x (List.mem_cons_of_mem _ hx) h8 (by omega)
    simp only [hkj, and_false, if_false, Nat.add_zero] at q
    exact q
  · refine ⟨fun q => by omega, fun x hx h9 k hk hl' => ?_⟩
    have q := b2.2 x hx h9 k hk hl'
    have hkj : k ≠ j := fun e => hno x (List.mem_cons_of_mem _ hx) (Or.inr h9) (by omega)
    exact q

set_option maxHeartbeats 1000000 in
/-- DONE is delivered -/
theorem T_done (hj : j < 16) (h : InvC R K S V W O H (m :: L)) (hm : kd m = 4) (hl : ln m = (j : Int)) : InvC R K S V W O (w2 H j 6 0) L := by
  obtain ⟨a0, a1, a2, a3, a4, a5, a6, a7, a8, a9, b0, b1, b2⟩ := h
  obtain ⟨e1, e2, e3, e4, e5, e6, e7⟩ := ct_done hm hl L
  simp only [List.forall_mem_cons, e1, e2, e3, e4, e5, e6, e7] at a0 a1 a2 a3 a4 a5 a6 a7 a8 a9 b0 b1 b2
  unfold InvC
  refine ⟨a0.2, a1, fun i hi => (a2 i hi).2, a3, a4, a5, a6, a7, ?_, ?_, ?_, fun i hi k hk => (b1 i hi k hk).2, ?_⟩
  · intro k hk
    have q := a8 k hk
    have z : 0 ≤ s4 (fun i => bzA (R i 0) (L.countP (pG i)) k) := by
      have h0 := bz_pos (R 0 0) (L.countP (pG 0)) k
      have h1 := bz_pos (R 1 0) (L.countP (pG 1)) k
      have h2 := bz_pos (R 2 0) (L.countP (pG 2)) k
      have h3 := bz_pos (R 3 0) (L.countP (pG 3)) k
      show 0 ≤ bzA (R 0 0) (L.countP (pG 0)) k + bzA (R 1 0) (L.countP (pG 1)) k + bzA (R 2 0) (L.countP (pG 2)) k + bzA (R 3 0) (L.countP (pG 3)) k
      omega
    by_cases hkj : k = j
    · subst hkj
      have w : w2 H k 6 0 k 6 = 0 := by simp [w2]
      rw [w]
      simp only [if_true] at q
      exact ⟨Or.inl rfl, by omega⟩
    · have w : w2 H j 6 0 k 6 = H k 6 := by simp [w2, hkj]
      rw [w]
      simp only [if_neg hkj, Nat.add_zero] at q
      exact q
  · intro k hk
    have q := a9 k hk
    unfold w2
    simp
    exact q
  · intro i hi k hk hw
    unfold w2 at hw
    simp at hw
    exact b0 i hi k hk hw
  · intro x hx h9 k hk hl'
    have q := b2.2 x hx h9 k hk hl'
    unfold w2
    simp [q]

set_option maxHeartbeats 1000000 in
/-- DATA or GRANT is delivered -/
theorem T_ans (hc : c < 4) (h : InvC R K S V W O H (m :: L)) (hm : kd m = 5 ∨ kd m = 6) (ht : tt m = (c : Int)) : InvC (w2 (w2 (w2 R c 3 1) c 4 (vl m)) c 5 (cn m)) K S V W O H L := by
  obtain ⟨a0, a1, a2, a3, a4, a5, a6, a7, a8, a9, b0, b1, b2⟩ := h
  obtain ⟨e1, e2, e3, e4, e5, e6, e7⟩ := ct_ans hm ht L
  simp only [List.forall_mem_cons, e1, e2, e3, e4, e5, e6, e7] at a0 a1 a2 a3 a4 a5 a6 a7 a8 a9 b0 b1 b2
  have c1 := a1 c hc
  have c2 := (a2 c hc).1.2.2.1 hm ht
  have w := a0.1
  unfold wfm at w
  unfold rqA at c1
  rw [if_pos rfl] at c1
  have r0 : ∀ i, w2 (w2 (w2 R c 3 1) c 4 (vl m)) c 5 (cn m) i 0 = R i 0 := fun i => by simp [w2]
  have r1 : ∀ i, w2 (w2 (w2 R c 3 1) c 4 (vl m)) c 5 (cn m) i 1 = R i 1 := fun i => by simp [w2]
  have r2 : ∀ i, w2 (w2 (w2 R c 3 1) c 4 (vl m)) c 5 (cn m) i 2 = R i 2 := fun i => by simp [w2]
  have r6 : ∀ i, w2 (w2 (w2 R c 3 1) c 4 (vl m)) c 5 (cn m) i 6 = R i 6 := fun i => by simp [w2]
  have r3 : ∀ i, w2 (w2 (w2 R c 3 1) c 4 (vl m)) c 5 (cn m) i 3 = if i = c then 1 else R i 3 := fun i => by simp [w2]
  have r4 : ∀ i, w2 (w2 (w2 R c 3 1) c 4 (vl m)) c 5 (cn m) i 4 = if i = c then vl m else R i 4 := fun i => by simp [w2]
  have r5 : ∀ i, w2 (w2 (w2 R c 3 1) c 4 (vl m)) c 5 (cn m) i 5 = if i = c then cn m else R i 5 := fun i => by simp [w2]
  unfold InvC
  simp only [r0, r1, r2, r3, r4, r5, r6]
  refine ⟨a0.2, ?_, fun i hi => (a2 i hi).2, a3, a4, a5, a6, ?_, a8, a9, b0, fun i hi k hk => (b1 i hi k hk).2, b2.2⟩
  · intro i hi
    have q := a1 i hi
    by_cases hic : i = c
    · subst hic
      unfold rqA at q ⊢
      simp only [if_true] at q ⊢
      refine ⟨Or.inr trivial, ?_⟩
      omega
    · simp only [if_neg hic, Nat.add_zero] at q ⊢
      exact q
  · intro i hi hr
    have q := a7 i hi hr
    by_cases hic : i = c
    · subst hic
      simp only [if_true]
      refine ⟨q.1, fun _ h1 => ?_⟩
      rcases hm with hm | hm
      · exact w.2.2.2.2.2 (Or.inr hm)
      · have := c2.2.2 hm
        omega
    · simp only [if_neg hic]
      exact q

set_option maxHeartbeats 1000000 in
/-- INVALIDATE_DONE is delivered -/
theorem T_ack (hc : c < 4) (h : InvC R K S V W O H (m :: L)) (hm : kd m = 7) (ht : tt m = (c : Int)) : InvC (w2 R c 6 (R c 6 + 1)) K S V W O H L := by
  obtain ⟨a0, a1, a2, a3, a4, a5, a6, a7, a8, a9, b0, b1, b2⟩ := h
  obtain ⟨e1, e2, e3, e4, e5, e6, e7⟩ := ct_ack hm ht L
  simp only [List.forall_mem_cons, e1, e2, e3, e4, e5, e6, e7] at a0 a1 a2 a3 a4 a5 a6 a7 a8 a9 b0 b1 b2
  have c1 := a1 c hc
  unfold rqA at c1
  rw [if_pos rfl] at c1
  have rr : ∀ i n, n ≠ 6 → w2 R c 6 (R c 6 + 1) i n = R i n := fun i n hn => by simp [w2, hn]
  have r6 : ∀ i, w2 R c 6 (R c 6 + 1) i 6 = if i = c then R i 6 + 1 else R i 6 := fun i => by
    unfold w2
    by_cases hic : i = c <;> simp [hic]
  unfold InvC
  simp only [rr _ 0 (by decide), rr _ 1 (by decide), rr _ 2 (by decide), rr _ 3 (by decide), rr _ 4 (by decide), rr _ 5 (by decide), r6]
  refine ⟨a0.2, ?_, ?_, a3, a4, a5, a6, a7, a8, a9, b0, fun i hi k hk => (b1 i hi k hk).2, b2.2⟩
  · intro i hi
    have q := a1 i hi
    by_cases hic : i = c
    · subst hic
      unfold rqA at q ⊢
      simp only [if_true] at q ⊢
      omega
    · simp only [if_neg hic, Nat.add_zero] at q ⊢
      exact q
  · intro i hi x hx
    have q := (a2 i hi).2 x hx
    by_cases hic : i = c
    · subst hic
      simp only [if_true] at q ⊢
      rw [show ((L.countP (pX i) : Nat) : Int) + (R i 6 + 1) = ((L.countP (pX i) + 1 : Nat) : Int) + R i 6 by omega]
      exact q
    · simp only [if_neg hic, Nat.add_zero] at q ⊢
      exact q
end PINV
