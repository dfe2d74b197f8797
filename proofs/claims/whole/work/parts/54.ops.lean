/-! ===== each call of the law, class and model ===== -/
theorem if_sm {c : Prop} [Decidable c] {a b z : St} (h1 : a = z) (h2 : b = z) : (if c then a else b) = z := by
  split <;> assumption
section OPS
variable {l : Launch} {E : gE} 
theorem op_setRoom (hlt : l.stackTraces = false) (a b d : Int32) : OpS l E yL_setRoom wsL_setRoom yX6_setRoom wsX6_setRoom (fun r => if r = 0 then 0 else 1) [.int a, .int b, .int d] := by
  rintro y t cs sl ⟨v, T, U, hV, hS, hb, hc, hs⟩ ht
  rcases cOr a with ha | ⟨i, hi, rfl⟩
  · exact OpE.bad (by decide) (by decide) (w_setRoom_bc l E y hlt v hV a b d ha) (c_X6_setRoom_bc l E y a b d ha) fmz co_s_X6_setRoom_bc hV hS.f0.f0 hb hc hs
  · by_cases hw : b < nI 1 ∨ nI 4 < b
    · have k := room_b (i := i) (b := d) hS (a := b) (hw.elim Or.inl fun h => Or.inr (Or.inl h))
      exact OpE.bad (by decide) (by decide) (w_setRoom_bw l E y hlt v hV i b d hi hw) (c_X6_setRoom_ok l E y i b d hi) k.2 co_s_X6_setRoom_ok hV k.1 hb hc hs
    · simp only [not_or] at hw
      have hb0 : ¬ b < 0 := fun h => hw.1 (Int32.lt_trans h (by decide))
      obtain ⟨w, hw3, rfl⟩ := nI_of hb0
      have hw1 := hw.1
      have hw2 := hw.2
      rw [nI_ltI hw3 (by omega)] at hw1
      rw [nI_ltI (by omega) hw3] at hw2
      rcases uOr d (n := 2) (by omega) with hd | ⟨n, hn, rfl⟩
      · have k := room_b (i := i) (a := nI w) (b := d) hS (Or.inr (Or.inr hd))
        exact OpE.bad (by decide) (by decide) (w_setRoom_bv l E y hlt v hV i w d hi (by omega) (by omega) hd) (c_X6_setRoom_ok l E y i (nI w) d hi) k.2 co_s_X6_setRoom_ok hV k.1 hb hc hs
      · by_cases hin : nI (r_X0_isInUse v i) = 0
        · refine OpE.good (rm := { frames := 2, cells := 0, slots := 0, locals := 44 }) (u := s_X5_setRoom v i w n) (T := T) (U := U) (f := fun z => s_X6_setRoom_ok z i (nI w) (nI n)) (r := nI (r_X5_setRoom v i w n)) (by decide) hV (w_setRoom l E y hlt v hV i w n hi (by omega) (by omega) hn hin) (room_sim (w := w) hS hi (by omega) (by omega) hn hin).1.am ?_ ?_ ?_ ?_
          · intro y1 h1 h2
            have k := room_sim (w := w) (hS.cg h1 h2) hi (by omega) (by omega) hn hin
            have c := c_X6_setRoom_ok l E y1 i (nI w) (nI n) hi
            rw [k.2.2] at c
            exact ⟨c, co_s_X6_setRoom_ok, k.1, k.2.1⟩
          · have := room_pot (v := v) (i := i) (a := w) (b := n)
            omega
          · omega
          · omega
        · have k := room_s (w := w) hS hi (by omega) (by omega) hn hin
          exact OpE.bad (by decide) (by decide) (w_setRoom_s l E y hlt v hV i w n hi (by omega) (by omega) hn hin) (c_X6_setRoom_ok l E y i (nI w) (nI n) hi) k.2 co_s_X6_setRoom_ok hV k.1 hb hc hs
theorem op_read (hlt : l.stackTraces = false) (a b : Int32) : OpS l E yL_read wsL_read yX6_read wsX6_read (fun r => r.toInt64) [.int a, .int b] := by
  rintro y t cs sl ⟨v, T, U, hV, hS, hb, hc, hs⟩ ht
  rcases cOr a with ha | ⟨i, hi, rfl⟩
  · exact OpE.bad (by decide) (by decide) (w_read_bc l E y hlt v hV a b ha) (c_X6_read_bc l E y a b ha) fmz co_s_X6_read_bc hV hS.f0.f0 hb hc hs
  rcases lOr b with hl | ⟨j, hj, rfl⟩
  · exact OpE.bad (by decide) (by decide) (w_read_bl l E y hlt v hV i b hi hl) (c_X6_read_bl l E y i b hi hl) fmz co_s_X6_read_bl hV hS.f0.f0 hb hc hs
  have hu := hS.uo hi
  by_cases ha : acc v i j
  · refine OpE.good (rm := { frames := 4, cells := 0, slots := 0, locals := 92 }) (u := s_X5_read v i j) (T := T + 1) (U := U + 2) (f := fun z => s_X6_read_ok z i j) (r := r_X5_read v i j) (by decide) hV (w_read l E y hlt v hV i j hi hj hu.1 hu.2 ha.1 ha.2.1 ha.2.2 (by have := hS.way.2; omega)) (read_sim (by omega) hS hi hj ha).1.am ?_ ?_ ?_ ?_
    · intro y1 h1 h2
      have hS1 := hS.cg h1 h2
      have k := read_sim (by omega) hS1 hi hj ha
      have c := c_X6_read_ok l E y1 i j hi hj (hS1.sok (by omega))
      rw [k.2.2] at c
      exact ⟨c, co_s_X6_read_ok, k.1, k.2.1⟩
    · have := read_pot (v := v) (i := i) (j := j)
      omega
    · omega
    · omega
  · have k := read_no hS hi hj ha
    exact OpE.bad (by decide) (by decide) (w_read_s l E y hlt v hV i j hi hj hu.2 ha) (c_X6_read_ok l E y i j hi hj (hS.sok (by omega))) k.2 co_s_X6_read_ok hV k.1 hb hc hs
theorem op_write (hlt : l.stackTraces = false) (a b d : Int32) : OpS l E yL_write wsL_write yX6_write wsX6_write (fun r => if r = 0 then 0 else 1) [.int a, .int b, .int d] := by
  rintro y t cs sl ⟨v, T, U, hV, hS, hb, hc, hs⟩ ht
  rcases cOr a with ha | ⟨i, hi, rfl⟩
  · exact OpE.bad (by decide) (by decide) (w_write_bc l E y hlt v hV a b d ha) (c_X6_write_bc l E y a b d ha) fmz co_s_X6_write_bc hV hS.f0.f0 hb hc hs
  rcases lOr b with hl | ⟨j, hj, rfl⟩
  · exact OpE.bad (by decide) (by decide) (w_write_bl l E y hlt v hV i b d hi hl) (c_X6_write_bl l E y i b d hi hl) fmz co_s_X6_write_bl hV hS.f0.f0 hb hc hs
  rcases uOr d (n := 9999) (by omega) with hd | ⟨n, hn, rfl⟩
  · have k := write_bv (i := i) (j := j) hS hd
    exact OpE.bad (by decide) (by decide) (w_write_bv l E y hlt v hV i j d hi hj hd) (c_X6_write_ok l E y i j d hi hj (hS.sok (by omega))) k.2 co_s_X6_write_ok hV k.1 hb hc hs
  have hu := hS.uo hi
  by_cases ha : acc v i j
  · refine OpE.good (rm := { frames := 4, cells := 0, slots := 0, locals := 92 }) (u := s_X5_write v i j n) (T := T + 1) (U := U + 2) (f := fun z => s_X6_write_ok z i j (nI n)) (r := nI (r_X5_write v i j n)) (by decide) hV (w_write l E y hlt v hV i j n hi hj hn hu.1 hu.2 ha.1 ha.2.1 ha.2.2 (by have := hS.way.2; omega)) (write_sim (by omega) hS hi hj hn ha).1.am ?_ ?_ ?_ ?_
    · intro y1 h1 h2
      have hS1 := hS.cg h1 h2
      have k := write_sim (by omega) hS1 hi hj hn ha
      have c := c_X6_write_ok l E y1 i j (nI n) hi hj (hS1.sok (by omega))
      rw [k.2.2] at c
      exact ⟨c, co_s_X6_write_ok, k.1, k.2.1⟩
    · have := write_pot (v := v) (i := i) (j := j) (n := n)
      omega
    · omega
    · omega
  · have k := write_no hS hi hj hn ha
    exact OpE.bad (by decide) (by decide) (w_write_s l E y hlt v hV i j n hi hj hn hu.2 ha) (c_X6_write_ok l E y i j (nI n) hi hj (hS.sok (by omega))) k.2 co_s_X6_write_ok hV k.1 hb hc hs
theorem op_evict (hlt : l.stackTraces = false) (a b : Int32) : OpS l E yL_evict wsL_evict yX6_evict wsX6_evict (fun r => r.toInt64) [.int a, .int b] := by
  rintro y t cs sl ⟨v, T, U, hV, hS, hb, hc, hs⟩ ht
  rcases cOr a with ha | ⟨i, hi, rfl⟩
  · exact OpE.bad (by decide) (by decide) (w_evict_bc l E y hlt v hV a b ha) (c_X6_evict_bc l E y a b ha) fmz co_s_X6_evict_bc hV hS.f0.f0 hb hc hs
  rcases lOr b with hl | ⟨j, hj, rfl⟩
  · exact OpE.bad (by decide) (by decide) (w_evict_bl l E y hlt v hV i b hi hl) (c_X6_evict_bl l E y i b hi hl) fmz co_s_X6_evict_bl hV hS.f0.f0 hb hc hs
  by_cases h0 : nI (r_X0_holds v i j) = 0
  · have k := evict_t hS hi hj h0
    exact OpE.bad (by decide) (by decide) (w_evict_t l E y hlt v hV i j hi hj h0) (c_X6_evict_ok l E y i j hi hj (hS.sok (by omega))) k.2 co_s_X6_evict_ok hV k.1 hb hc hs
  by_cases h3 : ¬ v.x.FR i 0 = nI j ∧ nI (r_X0_lacksVictimRoomFor v i j) = 0
  · refine OpE.good (rm := { frames := 3, cells := 0, slots := 0, locals := 66 }) (u := s_X5_evict v i j) (T := T) (U := U + 1) (f := fun z => s_X6_evict_ok z i j) (r := r_X5_evict v i j) (by decide) hV (w_evict l E y hlt v hV i j hi hj (hS.uo hi).1 h0 h3.1 h3.2 (by have := hS.way.2; omega)) (evict_sim hS hi hj h0 h3.1 h3.2).1.am ?_ ?_ ?_ ?_
    · intro y1 h1 h2
      have hS1 := hS.cg h1 h2
      have k := evict_sim hS1 hi hj h0 h3.1 h3.2
      have c := c_X6_evict_ok l E y1 i j hi hj (hS1.sok (by omega))
      rw [k.2.2] at c
      exact ⟨c, co_s_X6_evict_ok, k.1, k.2.1⟩
    · have := evict_pot (v := v) (i := i) (j := j)
      omega
    · omega
    · omega
  · have k := evict_s hS hi hj h0 h3
    exact OpE.bad (by decide) (by decide) (w_evict_s l E y hlt v hV i j hi hj h0 h3) (c_X6_evict_ok l E y i j hi hj (hS.sok (by omega))) k.2 co_s_X6_evict_ok hV k.1 hb hc hs
theorem op_state (hlt : l.stackTraces = false) (a b : Int32) : OpS l E yL_state wsL_state yX6_state wsX6_state (fun r => r.toInt64) [.int a, .int b] := by
  rintro y t cs sl ⟨v, T, U, hV, hS, hb, hc, hs⟩ ht
  rcases cOr a with ha | ⟨i, hi, rfl⟩
  · exact OpE.bad (by decide) (by decide) (w_state_bc l E y hlt v hV a b ha) (c_X6_state_bc l E y a b ha) fmz co_s_X6_state_bc hV hS.f0.f0 hb hc hs
  rcases lOr b with hl | ⟨j, hj, rfl⟩
  · exact OpE.bad (by decide) (by decide) (w_state_bl l E y hlt v hV i b hi hl) (c_X6_state_bl l E y i b hi hl) fmz co_s_X6_state_bl hV hS.f0.f0 hb hc hs
  refine OpE.good (rm := { frames := 1, cells := 0, slots := 0, locals := 21 }) (u := v) (T := T) (U := U) (f := fun z => s_X6_state_ok z i j) (r := r_X5_state v i j) (by decide) hV (w_state l E y hlt v hV i j hi hj) ⟨rfl, rfl⟩ ?_ ?_ ?_ ?_
  · intro y1 h1 h2
    have hS1 := hS.cg h1 h2
    have e : r_X6_state_ok y1 i j = r_X5_state v i j := hS1.state hi hj
    have c := c_X6_state_ok l E y1 i j hi hj
    rw [e] at c
    exact ⟨c, co_s_X6_state_ok, hS1.f0, fmz⟩
  · omega
  · omega
  · omega
theorem op_victimValue (hlt : l.stackTraces = false) (a b : Int32) : OpS l E yL_victimValue wsL_victimValue yX6_victimValue wsX6_victimValue (fun r => r.toInt64) [.int a, .int b] := by
  rintro y t cs sl ⟨v, T, U, hV, hS, hb, hc, hs⟩ ht
  rcases cOr a with ha | ⟨i, hi, rfl⟩
  · exact OpE.bad (by decide) (by decide) (w_victimValue_bc l E y hlt v hV a b ha) (c_X6_victimValue_bc l E y a b ha) fmz co_s_X6_victimValue_bc hV hS.f0.f0 hb hc hs
  rcases lOr b with hl | ⟨j, hj, rfl⟩
  · exact OpE.bad (by decide) (by decide) (w_victimValue_bl l E y hlt v hV i b hi hl) (c_X6_victimValue_bl l E y i b hi hl) fmz co_s_X6_victimValue_bl hV hS.f0.f0 hb hc hs
  refine OpE.good (rm := { frames := 1, cells := 0, slots := 0, locals := 21 }) (u := v) (T := T) (U := U) (f := fun z => s_X6_victimValue_ok z i j) (r := r_X5_victimValue v i j) (by decide) hV (w_victimValue l E y hlt v hV i j hi hj) ⟨rfl, rfl⟩ ?_ ?_ ?_ ?_
  · intro y1 h1 h2
    have hS1 := hS.cg h1 h2
    have e : r_X6_victimValue_ok y1 i j = r_X5_victimValue v i j := hS1.vict hi hj
    have c := c_X6_victimValue_ok l E y1 i j hi hj
    rw [e] at c
    exact ⟨c, co_s_X6_victimValue_ok, hS1.f0, fmz⟩
  · omega
  · omega
  · omega
theorem op_value (hlt : l.stackTraces = false) (a b : Int32) : OpS l E yL_value wsL_value yX6_value wsX6_value (fun r => r.toInt64) [.int a, .int b] := by
  rintro y t cs sl ⟨v, T, U, hV, hS, hb, hc, hs⟩ ht
  rcases cOr a with ha | ⟨i, hi, rfl⟩
  · exact OpE.bad (by decide) (by decide) (w_value_bc l E y hlt v hV a b ha) (c_X6_value_bc l E y a b ha) fmz co_s_X6_value_bc hV hS.f0.f0 hb hc hs
  rcases lOr b with hl | ⟨j, hj, rfl⟩
  · exact OpE.bad (by decide) (by decide) (w_value_bl l E y hlt v hV i b hi hl) (c_X6_value_bl l E y i b hi hl) fmz co_s_X6_value_bl hV hS.f0.f0 hb hc hs
  by_cases h0 : nI (r_X0_holds v i j) = 0
  · have k := value_sim hS hi hj
    exact OpE.bad (by decide) (by decide) (w_value_t l E y hlt v hV i j hi hj h0) (c_X6_value_ok l E y i j hi hj) (k.1 h0) co_s_X6_value_ok hV k.2.2 hb hc hs
  refine OpE.good (rm := { frames := 1, cells := 0, slots := 0, locals := 21 }) (u := v) (T := T) (U := U) (f := fun z => s_X6_value_ok z i j) (r := r_X5_value v i j) (by decide) hV (w_value l E y hlt v hV i j hi hj h0) ⟨rfl, rfl⟩ ?_ ?_ ?_ ?_
  · intro y1 h1 h2
    have k := value_sim (hS.cg h1 h2) hi hj
    have c := c_X6_value_ok l E y1 i j hi hj
    rw [(k.2.1 h0).2] at c
    exact ⟨c, co_s_X6_value_ok, k.2.2, (k.2.1 h0).1⟩
  · omega
  · omega
  · omega
theorem op_openLine (hlt : l.stackTraces = false) (a : Int32) : OpS l E yL_openLine wsL_openLine yX6_openLine wsX6_openLine (fun r => r.toInt64) [.int a] := by
  rintro y t cs sl ⟨v, T, U, hV, hS, hb, hc, hs⟩ ht
  rcases cOr a with ha | ⟨i, hi, rfl⟩
  · exact OpE.bad (by decide) (by decide) (w_openLine_bc l E y hlt v hV a ha) (c_X6_openLine_bc l E y a ha) fmz co_s_X6_openLine_bc hV hS.f0.f0 hb hc hs
  refine OpE.good (rm := { frames := 1, cells := 0, slots := 0, locals := 20 }) (u := v) (T := T) (U := U) (f := fun z => s_X6_openLine_ok z i) (r := r_X5_openLine v i) (by decide) hV (w_openLine l E y hlt v hV i hi) ⟨rfl, rfl⟩ ?_ ?_ ?_ ?_
  · intro y1 h1 h2
    have hS1 := hS.cg h1 h2
    have e : r_X6_openLine_ok y1 i = r_X5_openLine v i := (hS1.nums hi).1
    have c := c_X6_openLine_ok l E y1 i hi
    rw [e] at c
    exact ⟨c, co_s_X6_openLine_ok, hS1.f0, fmz⟩
  · omega
  · omega
  · omega
theorem op_latestRead (hlt : l.stackTraces = false) (a : Int32) : OpS l E yL_latestRead wsL_latestRead yX6_latestRead wsX6_latestRead (fun r => r.toInt64) [.int a] := by
  rintro y t cs sl ⟨v, T, U, hV, hS, hb, hc, hs⟩ ht
  rcases cOr a with ha | ⟨i, hi, rfl⟩
  · exact OpE.bad (by decide) (by decide) (w_latestRead_bc l E y hlt v hV a ha) (c_X6_latestRead_bc l E y a ha) fmz co_s_X6_latestRead_bc hV hS.f0.f0 hb hc hs
  refine OpE.good (rm := { frames := 1, cells := 0, slots := 0, locals := 20 }) (u := v) (T := T) (U := U) (f := fun z => s_X6_latestRead_ok z i) (r := r_X5_latestRead v i) (by decide) hV (w_latestRead l E y hlt v hV i hi) ⟨rfl, rfl⟩ ?_ ?_ ?_ ?_
  · intro y1 h1 h2
    have hS1 := hS.cg h1 h2
    have e : r_X6_latestRead_ok y1 i = r_X5_latestRead v i := (hS1.nums hi).2.1
    have c := c_X6_latestRead_ok l E y1 i hi
    rw [e] at c
    exact ⟨c, co_s_X6_latestRead_ok, hS1.f0, fmz⟩
  · omega
  · omega
  · omega
theorem op_hits (hlt : l.stackTraces = false) (a : Int32) : OpS l E yL_hits wsL_hits yX6_hits wsX6_hits (fun r => r.toInt64) [.int a] := by
  rintro y t cs sl ⟨v, T, U, hV, hS, hb, hc, hs⟩ ht
  rcases cOr a with ha | ⟨i, hi, rfl⟩
  · exact OpE.bad (by decide) (by decide) (w_hits_bc l E y hlt v hV a ha) (c_X6_hits_bc l E y a ha) fmz co_s_X6_hits_bc hV hS.f0.f0 hb hc hs
  refine OpE.good (rm := { frames := 1, cells := 0, slots := 0, locals := 20 }) (u := v) (T := T) (U := U) (f := fun z => s_X6_hits_ok z i) (r := r_X5_hits v i) (by decide) hV (w_hits l E y hlt v hV i hi) ⟨rfl, rfl⟩ ?_ ?_ ?_ ?_
  · intro y1 h1 h2
    have hS1 := hS.cg h1 h2
    have e : r_X6_hits_ok y1 i = r_X5_hits v i := (hS1.nums hi).2.2.1
    have c := c_X6_hits_ok l E y1 i hi
    rw [e] at c
    exact ⟨c, co_s_X6_hits_ok, hS1.f0, fmz⟩
  · omega
  · omega
  · omega
theorem op_misses (hlt : l.stackTraces = false) (a : Int32) : OpS l E yL_misses wsL_misses yX6_misses wsX6_misses (fun r => r.toInt64) [.int a] := by
  rintro y t cs sl ⟨v, T, U, hV, hS, hb, hc, hs⟩ ht
  rcases cOr a with ha | ⟨i, hi, rfl⟩
  · exact OpE.bad (by decide) (by decide) (w_misses_bc l E y hlt v hV a ha) (c_X6_misses_bc l E y a ha) fmz co_s_X6_misses_bc hV hS.f0.f0 hb hc hs
  refine OpE.good (rm := { frames := 1, cells := 0, slots := 0, locals := 20 }) (u := v) (T := T) (U := U) (f := fun z => s_X6_misses_ok z i) (r := r_X5_misses v i) (by decide) hV (w_misses l E y hlt v hV i hi) ⟨rfl, rfl⟩ ?_ ?_ ?_ ?_
  · intro y1 h1 h2
    have hS1 := hS.cg h1 h2
    have e : r_X6_misses_ok y1 i = r_X5_misses v i := (hS1.nums hi).2.2.2
    have c := c_X6_misses_ok l E y1 i hi
    rw [e] at c
    exact ⟨c, co_s_X6_misses_ok, hS1.f0, fmz⟩
  · omega
  · omega
  · omega
theorem op_lineAt (hlt : l.stackTraces = false) (a b : Int32) : OpS l E yL_lineAt wsL_lineAt yX6_lineAt wsX6_lineAt (fun r => r.toInt64) [.int a, .int b] := by
  rintro y t cs sl ⟨v, T, U, hV, hS, hb, hc, hs⟩ ht
  rcases cOr a with ha | ⟨i, hi, rfl⟩
  · exact OpE.bad (by decide) (by decide) (w_lineAt_bc l E y hlt v hV a b ha) (c_X6_lineAt_bc l E y a b ha) fmz co_s_X6_lineAt_bc hV hS.f0.f0 hb hc hs
  by_cases hw : b < 0 ∨ v.x.FC i 7 ≤ b
  · have k := lineAt_sim hS hi
    exact OpE.bad (by decide) (by decide) (w_lineAt_t l E y hlt v hV i b hi hw) (c_X6_lineAt_ok l E y i b hi) (k.2.1 b hw) co_s_X6_lineAt_ok hV (k.2.2 b) hb hc hs
  simp only [not_or] at hw
  obtain ⟨k, hk0, rfl⟩ := nI_of hw.1
  have hu := (hS.uo hi).1
  have hkc : nI k < v.x.FC i 7 := Int32.not_le.mp hw.2
  have hk4 : k < 4 := by
    have h := hkc
    rw [hu.1, nI_ltI hk0 (by omega)] at h
    omega
  refine OpE.good (rm := { frames := 2, cells := 0, slots := 0, locals := 46 }) (u := v) (T := T) (U := U) (f := fun z => s_X6_lineAt_ok z i (nI k)) (r := r_X5_lineAt v i k) (by decide) hV (w_lineAt l E y hlt v hV i k hi hk4 hkc) ⟨rfl, rfl⟩ ?_ ?_ ?_ ?_
  · intro y1 h1 h2
    have kk := lineAt_sim (hS.cg h1 h2) hi
    have c := c_X6_lineAt_ok l E y1 i (nI k) hi
    rw [(kk.1 k hk4 hkc).2] at c
    exact ⟨c, co_s_X6_lineAt_ok, kk.2.2 _, (kk.1 k hk4 hkc).1⟩
  · omega
  · omega
  · omega
theorem op_owner (hlt : l.stackTraces = false) (a : Int32) : OpS l E yL_owner wsL_owner yX6_owner wsX6_owner (fun r => r.toInt64) [.int a] := by
  rintro y t cs sl ⟨v, T, U, hV, hS, hb, hc, hs⟩ ht
  rcases lOr a with ha | ⟨j, hj, rfl⟩
  · exact OpE.bad (by decide) (by decide) (w_owner_bl l E y hlt v hV a ha) (c_X6_owner_bl l E y a ha) fmz co_s_X6_owner_bl hV hS.f0.f0 hb hc hs
  refine OpE.good (rm := { frames := 1, cells := 0, slots := 0, locals := 20 }) (u := v) (T := T) (U := U) (f := fun z => s_X6_owner_ok z j) (r := r_X5_owner v j) (by decide) hV (w_owner l E y hlt v hV j hj) ⟨rfl, rfl⟩ ?_ ?_ ?_ ?_
  · intro y1 h1 h2
    have hS1 := hS.cg h1 h2
    have e : r_X6_owner_ok y1 j = r_X5_owner v j := (hS1.home hj).2.1
    have c := c_X6_owner_ok l E y1 j hj
    rw [e] at c
    exact ⟨c, co_s_X6_owner_ok, hS1.f0, fmz⟩
  · omega
  · omega
  · omega
theorem op_sharers (hlt : l.stackTraces = false) (a : Int32) : OpS l E yL_sharers wsL_sharers yX6_sharers wsX6_sharers (fun r => r.toInt64) [.int a] := by
  rintro y t cs sl ⟨v, T, U, hV, hS, hb, hc, hs⟩ ht
  rcases lOr a with ha | ⟨j, hj, rfl⟩
  · exact OpE.bad (by decide) (by decide) (w_sharers_bl l E y hlt v hV a ha) (c_X6_sharers_bl l E y a ha) fmz co_s_X6_sharers_bl hV hS.f0.f0 hb hc hs
  refine OpE.good (rm := { frames := 1, cells := 0, slots := 0, locals := 20 }) (u := v) (T := T) (U := U) (f := fun z => s_X6_sharers_ok z j) (r := r_X5_sharers v j) (by decide) hV (w_sharers l E y hlt v hV j hj) ⟨rfl, rfl⟩ ?_ ?_ ?_ ?_
  · intro y1 h1 h2
    have hS1 := hS.cg h1 h2
    have e : r_X6_sharers_ok y1 j = r_X5_sharers v j := (hS1.home hj).2.2.1
    have c := c_X6_sharers_ok l E y1 j hj
    rw [e] at c
    exact ⟨c, co_s_X6_sharers_ok, hS1.f0, fmz⟩
  · omega
  · omega
  · omega
theorem op_isBusy (hlt : l.stackTraces = false) (a : Int32) : OpS l E yL_isBusy wsL_isBusy yX6_isBusy wsX6_isBusy (fun r => if r = 0 then 0 else 1) [.int a] := by
  rintro y t cs sl ⟨v, T, U, hV, hS, hb, hc, hs⟩ ht
  rcases lOr a with ha | ⟨j, hj, rfl⟩
  · exact OpE.bad (by decide) (by decide) (w_isBusy_bl l E y hlt v hV a ha) (c_X6_isBusy_bl l E y a ha) fmz co_s_X6_isBusy_bl hV hS.f0.f0 hb hc hs
  refine OpE.good (rm := { frames := 1, cells := 0, slots := 0, locals := 20 }) (u := v) (T := T) (U := U) (f := fun z => s_X6_isBusy_ok z j) (r := r_X5_isBusy v j) (by decide) hV (w_isBusy l E y hlt v hV j hj (hS.home hj).2.2.2.2.2) ⟨rfl, rfl⟩ ?_ ?_ ?_ ?_
  · intro y1 h1 h2
    have hS1 := hS.cg h1 h2
    have e : r_X6_isBusy_ok y1 j = r_X5_isBusy v j := (hS1.home hj).2.2.2.1
    have hz : narrow .boolean (.int (y1.AM 19 j)) = .int (y1.AM 19 j) := by
      have h3 : y1.AM 19 j = v.x.FH j 6 := (hS1.home hj).2.2.2.1
      rw [h3]
      rcases (hS.home hj).2.2.2.2.2 with h | h <;> rw [h] <;> rfl
    have c := c_X6_isBusy_ok l E y1 j hj hz
    rw [e] at c
    exact ⟨c, co_s_X6_isBusy_ok, hS1.f0, fmz⟩
  · omega
  · omega
  · omega
theorem op_queued (hlt : l.stackTraces = false) (a : Int32) : OpS l E yL_queued wsL_queued yX6_queued wsX6_queued (fun r => r.toInt64) [.int a] := by
  rintro y t cs sl ⟨v, T, U, hV, hS, hb, hc, hs⟩ ht
  rcases lOr a with ha | ⟨j, hj, rfl⟩
  · exact OpE.bad (by decide) (by decide) (w_queued_bl l E y hlt v hV a ha) (c_X6_queued_bl l E y a ha) fmz co_s_X6_queued_bl hV hS.f0.f0 hb hc hs
  refine OpE.good (rm := { frames := 1, cells := 0, slots := 0, locals := 20 }) (u := v) (T := T) (U := U) (f := fun z => s_X6_queued_ok z j) (r := nI (r_X5_queued v j)) (by decide) hV (w_queued l E y hlt v hV j hj) ⟨rfl, rfl⟩ ?_ ?_ ?_ ?_
  · intro y1 h1 h2
    have hS1 := hS.cg h1 h2
    have e : r_X6_queued_ok y1 j = nI (r_X5_queued v j) := (hS1.home hj).2.2.2.2.1
    have c := c_X6_queued_ok l E y1 j hj
    rw [e] at c
    exact ⟨c, co_s_X6_queued_ok, hS1.f0, fmz⟩
  · omega
  · omega
  · omega
theorem op_memory (hlt : l.stackTraces = false) (a : Int32) : OpS l E yL_memory wsL_memory yX6_memory wsX6_memory (fun r => r.toInt64) [.int a] := by
  rintro y t cs sl ⟨v, T, U, hV, hS, hb, hc, hs⟩ ht
  rcases lOr a with ha | ⟨j, hj, rfl⟩
  · exact OpE.bad (by decide) (by decide) (w_memory_bl l E y hlt v hV a ha) (c_X6_memory_bl l E y a ha) fmz co_s_X6_memory_bl hV hS.f0.f0 hb hc hs
  refine OpE.good (rm := { frames := 1, cells := 0, slots := 0, locals := 20 }) (u := v) (T := T) (U := U) (f := fun z => s_X6_memory_ok z j) (r := r_X5_memory v j) (by decide) hV (w_memory l E y hlt v hV j hj) ⟨rfl, rfl⟩ ?_ ?_ ?_ ?_
  · intro y1 h1 h2
    have hS1 := hS.cg h1 h2
    have e : r_X6_memory_ok y1 j = r_X5_memory v j := (hS1.home hj).1
    have c := c_X6_memory_ok l E y1 j hj
    rw [e] at c
    exact ⟨c, co_s_X6_memory_ok, hS1.f0, fmz⟩
  · omega
  · omega
  · omega
theorem op_messageKind (hlt : l.stackTraces = false) (a : Int32) : OpS l E yL_messageKind wsL_messageKind yX6_messageKind wsX6_messageKind (fun r => r.toInt64) [.int a] := by
  rintro y t cs sl ⟨v, T, U, hV, hS, hb, hc, hs⟩ ht
  have hw := hS.way
  rcases bOr a (n := (v.q 16).length) (by omega) with ha | ⟨k, hk, rfl⟩
  · have hm : badM y a := by
      show a < 0 ∨ y.FM 4 ≤ a
      rw [hw.1]
      exact ha
    exact OpE.bad (by decide) (by decide) (w_messageKind_bm l E y hlt v hV a ha) (c_X6_messageKind_no l E y a hm) fmz co_s_X6_messageKind_no hV hS.f0.f0 hb hc hs
  refine OpE.good (rm := { frames := 2, cells := 0, slots := 0, locals := 43 }) (u := v) (T := T) (U := U) (f := fun z => s_X6_messageKind_ok z k) (r := r_X5_messageKind v k) (by decide) hV (w_messageKind l E y hlt v hV k hk) ⟨rfl, rfl⟩ ?_ ?_ ?_ ?_
  · intro y1 h1 h2
    have hS1 := hS.cg h1 h2
    have e : r_X6_messageKind_ok y1 k = r_X5_messageKind v k := (hS1.row hk).1
    have c := c_X6_messageKind_ok l E y1 k (hS1.sok (by omega)) (hS1.kn hk)
    rw [e] at c
    exact ⟨c, co_s_X6_messageKind_ok, hS1.f0, fmz⟩
  · omega
  · omega
  · omega
theorem op_messageLine (hlt : l.stackTraces = false) (a : Int32) : OpS l E yL_messageLine wsL_messageLine yX6_messageLine wsX6_messageLine (fun r => r.toInt64) [.int a] := by
  rintro y t cs sl ⟨v, T, U, hV, hS, hb, hc, hs⟩ ht
  have hw := hS.way
  rcases bOr a (n := (v.q 16).length) (by omega) with ha | ⟨k, hk, rfl⟩
  · have hm : badM y a := by
      show a < 0 ∨ y.FM 4 ≤ a
      rw [hw.1]
      exact ha
    exact OpE.bad (by decide) (by decide) (w_messageLine_bm l E y hlt v hV a ha) (c_X6_messageLine_no l E y a hm) fmz co_s_X6_messageLine_no hV hS.f0.f0 hb hc hs
  refine OpE.good (rm := { frames := 2, cells := 0, slots := 0, locals := 43 }) (u := v) (T := T) (U := U) (f := fun z => s_X6_messageLine_ok z k) (r := r_X5_messageLine v k) (by decide) hV (w_messageLine l E y hlt v hV k hk) ⟨rfl, rfl⟩ ?_ ?_ ?_ ?_
  · intro y1 h1 h2
    have hS1 := hS.cg h1 h2
    have e : r_X6_messageLine_ok y1 k = r_X5_messageLine v k := (hS1.row hk).2.1
    have c := c_X6_messageLine_ok l E y1 k (hS1.sok (by omega)) (hS1.kn hk)
    rw [e] at c
    exact ⟨c, co_s_X6_messageLine_ok, hS1.f0, fmz⟩
  · omega
  · omega
  · omega
theorem op_messageFrom (hlt : l.stackTraces = false) (a : Int32) : OpS l E yL_messageFrom wsL_messageFrom yX6_messageFrom wsX6_messageFrom (fun r => r.toInt64) [.int a] := by
  rintro y t cs sl ⟨v, T, U, hV, hS, hb, hc, hs⟩ ht
  have hw := hS.way
  rcases bOr a (n := (v.q 16).length) (by omega) with ha | ⟨k, hk, rfl⟩
  · have hm : badM y a := by
      show a < 0 ∨ y.FM 4 ≤ a
      rw [hw.1]
      exact ha
    exact OpE.bad (by decide) (by decide) (w_messageFrom_bm l E y hlt v hV a ha) (c_X6_messageFrom_no l E y a hm) fmz co_s_X6_messageFrom_no hV hS.f0.f0 hb hc hs
  refine OpE.good (rm := { frames := 2, cells := 0, slots := 0, locals := 43 }) (u := v) (T := T) (U := U) (f := fun z => s_X6_messageFrom_ok z k) (r := r_X5_messageFrom v k) (by decide) hV (w_messageFrom l E y hlt v hV k hk) ⟨rfl, rfl⟩ ?_ ?_ ?_ ?_
  · intro y1 h1 h2
    have hS1 := hS.cg h1 h2
    have e : r_X6_messageFrom_ok y1 k = r_X5_messageFrom v k := (hS1.row hk).2.2.1
    have c := c_X6_messageFrom_ok l E y1 k (hS1.sok (by omega)) (hS1.kn hk)
    rw [e] at c
    exact ⟨c, co_s_X6_messageFrom_ok, hS1.f0, fmz⟩
  · omega
  · omega
  · omega
theorem op_messageTo (hlt : l.stackTraces = false) (a : Int32) : OpS l E yL_messageTo wsL_messageTo yX6_messageTo wsX6_messageTo (fun r => r.toInt64) [.int a] := by
  rintro y t cs sl ⟨v, T, U, hV, hS, hb, hc, hs⟩ ht
  have hw := hS.way
  rcases bOr a (n := (v.q 16).length) (by omega) with ha | ⟨k, hk, rfl⟩
  · have hm : badM y a := by
      show a < 0 ∨ y.FM 4 ≤ a
      rw [hw.1]
      exact ha
    exact OpE.bad (by decide) (by decide) (w_messageTo_bm l E y hlt v hV a ha) (c_X6_messageTo_no l E y a hm) fmz co_s_X6_messageTo_no hV hS.f0.f0 hb hc hs
  refine OpE.good (rm := { frames := 2, cells := 0, slots := 0, locals := 43 }) (u := v) (T := T) (U := U) (f := fun z => s_X6_messageTo_ok z k) (r := r_X5_messageTo v k) (by decide) hV (w_messageTo l E y hlt v hV k hk) ⟨rfl, rfl⟩ ?_ ?_ ?_ ?_
  · intro y1 h1 h2
    have hS1 := hS.cg h1 h2
    have e : r_X6_messageTo_ok y1 k = r_X5_messageTo v k := (hS1.row hk).2.2.2
    have c := c_X6_messageTo_ok l E y1 k (hS1.sok (by omega)) (hS1.kn hk)
    rw [e] at c
    exact ⟨c, co_s_X6_messageTo_ok, hS1.f0, fmz⟩
  · omega
  · omega
  · omega
theorem op_deliver (hlt : l.stackTraces = false) (a : Int32) : OpS l E yL_deliver wsL_deliver yX6_deliver wsX6_deliver (fun r => r.toInt64) [.int a] := by
  rintro y t cs sl ⟨v, T, U, hV, hS, hb, hc, hs⟩ ht
  have hw := hS.way
  rcases bOr a (n := (v.q 16).length) (by omega) with ha | ⟨k, hk, rfl⟩
  · have hm : badM y a := by
      show a < 0 ∨ y.FM 4 ≤ a
      rw [hw.1]
      exact ha
    exact OpE.bad (by decide) (by decide) (w_deliver_bm l E y hlt v hV a ha) (c_X6_deliver_no l E y a hm) fmz co_s_X6_deliver_no hV hS.f0.f0 hb hc hs
  have hp := hand_pot hS hk
  refine OpE.good (rm := { frames := 5, cells := 0, slots := 0, locals := 111 }) (u := s_handOver v k) (T := T + 1) (U := U + uH v k) (f := fun z => s_X6_deliver_ok z k) (r := nI ((s_handOver v k).q 16).length) (by decide) hV (w_deliver l E y hlt v hV k hk hS.ci) (take_sim (by omega) hS hk).1.am ?_ ?_ ?_ ?_
  · intro y1 h1 h2
    have hS1 := (hS.cg h1 h2).f0 (w := nI 0)
    have kk := take_sim (by omega) hS1 hk
    have c := c_X6_deliver_ok l E y1 k ((hS.cg h1 h2).tk hk)
    have e : r_X6_deliver_ok y1 k = nI ((s_handOver v k).q 16).length := kk.2
    rw [e] at c
    exact ⟨c, co_s_X6_deliver_ok, kk.1, (f0_s_X6_take (x := y1.setFM 0 (nI 0)) (k := k)).trans fmz⟩
  · omega
  · omega
  · omega
theorem op_settle (hlt : l.stackTraces = false) (a : Int32) : OpS l E yL_settle wsL_settle yX6_settle wsX6_settle (fun r => r.toInt64) [.int a] := by
  rintro y t cs sl ⟨v, T, U, hV, hS, hb, hc, hs⟩ ht
  rcases uOr a (n := 1000) (by omega) with ha | ⟨n, hn, rfl⟩
  · have hz : (s_X6_settle_no y a).FM 0 = nI 1 := by
      unfold s_X6_settle_no
      split <;> exact fmz
    have hS2 : SM v (s_X6_settle_no y a) v.x T := by
      unfold s_X6_settle_no
      split <;> exact hS.f0.f0
    exact OpE.bad (by decide) (by decide) (w_settle_b l E y hlt v hV a ha) (c_X6_settle_no l E y a ha) hz co_s_X6_settle_no hV hS2 hb hc hs
  have P := settle_sim (z := y) (n0 := n) n 0 v y T hS (by omega)
  have hp := P.2.2.2.1
  refine OpE.good (rm := { frames := 5, cells := 0, slots := 0, locals := 111 }) (u := sN n v) (T := T + cN n v) (U := U + uN n v) (f := fun z => s_X6_settle_ok z n) (r := nI (cN n v)) (by decide) hV (w_settle l E y hlt v hV n hn P.2.2.1) P.1.am ?_ ?_ ?_ ?_
  · intro y1 h1 h2
    have hS1 := (hS.cg h1 h2).f0 (w := nI 0)
    have Q := settle_sim (z := y1) (n0 := n) n 0 v (y1.setFM 0 (nI 0)) T hS1 (by omega)
    have c := c_X6_settle_ok l E y1 n HS hn HS_ok ⟨v, v.x, T, hS1, by omega⟩
    have e : r_X6_settle_ok y1 n = cN n v := Q.2.1.trans (Nat.zero_add _)
    rw [e] at c
    exact ⟨c, co_s_X6_settle_ok, Q.1, (f0_lq_X6_settle_ok_24 n 0 _).trans fmz⟩
  · omega
  · omega
  · omega
theorem op_isInOrder (hlt : l.stackTraces = false) (a : Int32) : OpS l E yL_isInOrder wsL_isInOrder yX6_isInOrder wsX6_isInOrder (fun r => if r = 0 then 0 else 1) [.int a] := by
  rintro y t cs sl ⟨v, T, U, hV, hS, hb, hc, hs⟩ ht
  rcases lOr a with ha | ⟨j, hj, rfl⟩
  · exact OpE.bad (by decide) (by decide) (w_isInOrder_bl l E y hlt v hV a ha) (c_X6_isInOrder_bl l E y a ha) fmz co_s_X6_isInOrder_bl hV hS.f0.f0 hb hc hs
  have hz : ∀ z : St, SM v z v.x T → SM v (s_X6_isInOrder_ok z j) v.x T ∧ (s_X6_isInOrder_ok z j).FM 0 = nI 0 := by
    intro z h
    have e : s_X6_isInOrder_ok z j = z.setFM 0 (nI 0) := by
      unfold s_X6_isInOrder_ok
      repeat' (with_reducible first | rfl | refine if_sm ?_ ?_)
    rw [e]
    exact ⟨h.f0, fmz⟩
  refine OpE.good (rm := { frames := 1, cells := 0, slots := 0, locals := 21 }) (u := v) (T := T) (U := U) (f := fun z => s_X6_isInOrder_ok z j) (r := nI (r_X5_isInOrder y j)) (by decide) hV (w_isInOrder l E y hlt v hV j hj) ⟨rfl, rfl⟩ ?_ ?_ ?_ ?_
  · intro y1 h1 h2
    have hS1 := hS.cg h1 h2
    have e : r_X6_isInOrder_ok y1 j = r_X5_isInOrder y j := order_sim hS1 (fun i a k => hV.AC i a k) hj
    have c := c_X6_isInOrder_ok l E y1 j hj
    rw [e] at c
    exact ⟨c, co_s_X6_isInOrder_ok, (hz y1 hS1).1, (hz y1 hS1).2⟩
  · omega
  · omega
  · omega
end OPS
section OBS
variable {y : St} {t cs sl : Nat}
theorem op_messageCount (hx : LI y t cs sl) (ht : t < 512) : ∃ v, VW y v [] [] ∧ r_X6_messageCount y = nI (r_X5_messageCount v) ∧ LI (s_X6_messageCount y) (t + 1) cs sl ∧ sOK y 0 := by
  obtain ⟨v, T, U, hV, hS, hb, hc, hs⟩ := hx
  exact ⟨v, hV, (hS.f0 (w := nI 0)).way.1, (LI.next (U := U) hV co_s_X6_messageCount (hS.f0 (w := nI 0)) (by omega) (by omega) (by omega)).1, hS.sok (by omega)⟩
theorem op_writebacks (hx : LI y t cs sl) (ht : t < 512) : ∃ v, VW y v [] [] ∧ r_X6_writebacks y = r_X5_writebacks v ∧ LI (s_X6_writebacks y) (t + 1) cs sl ∧ sOK y 0 := by
  obtain ⟨v, T, U, hV, hS, hb, hc, hs⟩ := hx
  exact ⟨v, hV, (wb_sim hS).1, (LI.next (U := U) hV co_s_X6_writebacks (hS.f0 (w := nI 0)) (by omega) (by omega) (by omega)).1, hS.sok (by omega)⟩
theorem op_lateWritebacks (hx : LI y t cs sl) (ht : t < 512) : ∃ v, VW y v [] [] ∧ r_X6_lateWritebacks y = r_X5_lateWritebacks v ∧ LI (s_X6_lateWritebacks y) (t + 1) cs sl ∧ sOK y 0 := by
  obtain ⟨v, T, U, hV, hS, hb, hc, hs⟩ := hx
  exact ⟨v, hV, (wb_sim hS).2, (LI.next (U := U) hV co_s_X6_lateWritebacks (hS.f0 (w := nI 0)) (by omega) (by omega) (by omega)).1, hS.sok (by omega)⟩
theorem op_digest (hx : LI y t cs sl) (ht : t < 512) : ∃ v, VW y v [] [] ∧ r_X6_digest y = r_X5_digest v ∧ LI (s_X6_digest y) (t + 1) cs sl ∧ sOK y 0 := by
  obtain ⟨v, T, U, hV, hS, hb, hc, hs⟩ := hx
  exact ⟨v, hV, digest_sim hS, (LI.next (U := U) hV co_s_X6_digest (hS.f0 (w := nI 0)) (by omega) (by omega) (by omega)).1, hS.sok (by omega)⟩
end OBS
