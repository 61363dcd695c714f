/-! ===== the law's start: seven arrays ===== -/
theorem lt7 {P : Nat → Nat → Prop} (h01 : P 0 1) (h02 : P 0 2) (h03 : P 0 3) (h04 : P 0 4) (h05 : P 0 5) (h06 : P 0 6) (h12 : P 1 2) (h13 : P 1 3) (h14 : P 1 4) (h15 : P 1 5) (h16 : P 1 6) (h23 : P 2 3) (h24 : P 2 4) (h25 : P 2 5) (h26 : P 2 6) (h34 : P 3 4) (h35 : P 3 5) (h36 : P 3 6) (h45 : P 4 5) (h46 : P 4 6) (h56 : P 5 6) : ∀ i j, i < j → j < 7 → P i j := by
  intro i j h1 h2
  rcases (show i = 0 ∨ i = 1 ∨ i = 2 ∨ i = 3 ∨ i = 4 ∨ i = 5 ∨ i = 6 by omega) with rfl | rfl | rfl | rfl | rfl | rfl | rfl <;> rcases (show j = 0 ∨ j = 1 ∨ j = 2 ∨ j = 3 ∨ j = 4 ∨ j = 5 ∨ j = 6 by omega) with rfl | rfl | rfl | rfl | rfl | rfl | rfl <;> first | assumption | exact absurd h1 (by decide)
theorem all7 {P : Nat → Prop} (h0 : P 0) (h1 : P 1) (h2 : P 2) (h3 : P 3) (h4 : P 4) (h5 : P 5) (h6 : P 6) : ∀ i, i < 7 → P i := by
  intro i h
  rcases (show i = 0 ∨ i = 1 ∨ i = 2 ∨ i = 3 ∨ i = 4 ∨ i = 5 ∨ i = 6 by omega) with rfl | rfl | rfl | rfl | rfl | rfl | rfl <;> assumption
/-- the seven arrays that lie there at the start -/
theorem st_all {p : Program} {s : State} {m : MethodId} {meth : Method} {c : Code} {b L : Nat} {xs : Nat → Int32} (hL : L ≤ 260) (C0 : lw_At p s m meth c b L xs) : ∃ st : Nat → Nat,
    va_Z R_Pc "KIND_WORTH" "[I" (.ref (st 0)) (fun q : Nat => s.heap.size ≤ q) s s.heap ∧ va_Z R_Bd "UP" "[I" (.ref (st 1)) (fun q : Nat => s.heap.size ≤ q) s s.heap ∧ va_Z R_Bd "RIGHT" "[I" (.ref (st 2)) (fun q : Nat => s.heap.size ≤ q) s s.heap ∧
    va_Z R_Bd "FIRST_DIRECTION" "[I" (.ref (st 3)) (fun q : Nat => s.heap.size ≤ q) s s.heap ∧ va_Z R_Bd "LAST_DIRECTION" "[I" (.ref (st 4)) (fun q : Nat => s.heap.size ≤ q) s s.heap ∧ va_Z R_Bd "FARTHEST" "[I" (.ref (st 5)) (fun q : Nat => s.heap.size ≤ q) s s.heap ∧
    va_T .int (st 0) 5 (fun k => .int (zKW k)) (fun q : Nat => s.heap.size ≤ q) s s.heap ∧ va_T .int (st 1) 16 (fun k => .int (zUP k)) (fun q : Nat => s.heap.size ≤ q) s s.heap ∧ va_T .int (st 2) 16 (fun k => .int (zRT k)) (fun q : Nat => s.heap.size ≤ q) s s.heap ∧
    va_T .int (st 3) 5 (fun k => .int (zFD k)) (fun q : Nat => s.heap.size ≤ q) s s.heap ∧ va_T .int (st 4) 5 (fun k => .int (zLD k)) (fun q : Nat => s.heap.size ≤ q) s s.heap ∧ va_T .int (st 5) 5 (fun k => .int (zFA k)) (fun q : Nat => s.heap.size ≤ q) s s.heap ∧
    va_T .int (st 6) L (fun k => .int (xs k)) (fun q : Nat => s.heap.size ≤ q) s s.heap ∧ st 6 = b ∧ (∀ i, i < 7 → st i < s.heap.size) ∧ ∀ i j, i < 7 → j < 7 → st i = st j → i = j := by
  obtain ⟨hx, hb, hr, hml, hown, hts, hX, hbl, hlocks, hgv⟩ := id C0
  obtain ⟨t0, z0, w0, n0⟩ := st_a0 C0
  obtain ⟨t1, z1, w1, n1⟩ := st_a1 C0
  obtain ⟨t2, z2, w2, n2⟩ := st_a2 C0
  obtain ⟨t3, z3, w3, n3⟩ := st_a3 C0
  obtain ⟨t4, z4, w4, n4⟩ := st_a4 C0
  obtain ⟨t5, z5, w5, n5⟩ := st_a5 C0
  have w6 : va_T .int b L (fun k => .int (xs k)) (fun q : Nat => s.heap.size ≤ q) s s.heap := by
    obtain ⟨scr, g1, g2, g3, g4, g5⟩ := hX
    exact ⟨scr, g1, g2, g3, Nat.le_of_eq g4.symm, by rw [g4], g5, Nat.not_le.mpr hbl⟩
  have d01 := va_T_ne w0 w1 (j := 1) (by decide) (by decide) (by decide)
  have d02 := va_T_ne w0 w2 (j := 0) (by decide) (by decide) (by decide)
  have d03 := va_T_ne w0 w3 (j := 0) (by decide) (by decide) (by decide)
  have d04 := va_T_ne w0 w4 (j := 0) (by decide) (by decide) (by decide)
  have d05 := va_T_ne w0 w5 (j := 2) (by decide) (by decide) (by decide)
  have d12 := va_T_ne w1 w2 (j := 0) (by decide) (by decide) (by decide)
  have d13 := va_T_ne w1 w3 (j := 0) (by decide) (by decide) (by decide)
  have d14 := va_T_ne w1 w4 (j := 0) (by decide) (by decide) (by decide)
  have d15 := va_T_ne w1 w5 (j := 1) (by decide) (by decide) (by decide)
  have d23 := va_T_ne w2 w3 (j := 1) (by decide) (by decide) (by decide)
  have d24 := va_T_ne w2 w4 (j := 0) (by decide) (by decide) (by decide)
  have d25 := va_T_ne w2 w5 (j := 0) (by decide) (by decide) (by decide)
  have d34 := va_T_ne w3 w4 (j := 0) (by decide) (by decide) (by decide)
  have d35 := va_T_ne w3 w5 (j := 0) (by decide) (by decide) (by decide)
  have d45 := va_T_ne w4 w5 (j := 0) (by decide) (by decide) (by decide)
  obtain ⟨st, e0, e1, e2, e3, e4, e5, e6⟩ : ∃ st : Nat → Nat, st 0 = t0 ∧ st 1 = t1 ∧ st 2 = t2 ∧ st 3 = t3 ∧ st 4 = t4 ∧ st 5 = t5 ∧ st 6 = b := ⟨fun i => if i = 0 then t0 else if i = 1 then t1 else if i = 2 then t2 else if i = 3 then t3 else if i = 4 then t4 else if i = 5 then t5 else b, rfl, rfl, rfl, rfl, rfl, rfl, rfl⟩
  have key : ∀ i j, i < j → j < 7 → st i ≠ st j := lt7 (P := fun i j => st i ≠ st j) (fun e => d01 (e0.symm.trans (e.trans e1))) (fun e => d02 (e0.symm.trans (e.trans e2))) (fun e => d03 (e0.symm.trans (e.trans e3))) (fun e => d04 (e0.symm.trans (e.trans e4))) (fun e => d05 (e0.symm.trans (e.trans e5))) (fun e => n0 (e0.symm.trans (e.trans e6))) (fun e => d12 (e1.symm.trans (e.trans e2))) (fun e => d13 (e1.symm.trans (e.trans e3))) (fun e => d14 (e1.symm.trans (e.trans e4))) (fun e => d15 (e1.symm.trans (e.trans e5))) (fun e => n1 (e1.symm.trans (e.trans e6))) (fun e => d23 (e2.symm.trans (e.trans e3))) (fun e => d24 (e2.symm.trans (e.trans e4))) (fun e => d25 (e2.symm.trans (e.trans e5))) (fun e => n2 (e2.symm.trans (e.trans e6))) (fun e => d34 (e3.symm.trans (e.trans e4))) (fun e => d35 (e3.symm.trans (e.trans e5))) (fun e => n3 (e3.symm.trans (e.trans e6))) (fun e => d45 (e4.symm.trans (e.trans e5))) (fun e => n4 (e4.symm.trans (e.trans e6))) (fun e => n5 (e5.symm.trans (e.trans e6)))
  refine ⟨st, e0 ▸ z0, e1 ▸ z1, e2 ▸ z2, e3 ▸ z3, e4 ▸ z4, e5 ▸ z5, e0 ▸ w0, e1 ▸ w1, e2 ▸ w2, e3 ▸ w3, e4 ▸ w4, e5 ▸ w5, e6 ▸ w6, e6, all7 (P := fun i => st i < s.heap.size) (by rw [e0]; exact va_T_lt w0) (by rw [e1]; exact va_T_lt w1) (by rw [e2]; exact va_T_lt w2) (by rw [e3]; exact va_T_lt w3) (by rw [e4]; exact va_T_lt w4) (by rw [e5]; exact va_T_lt w5) (by rw [e6]; exact va_T_lt w6), fun i j hi hj e => ?_⟩
  by_cases h1 : i < j
  · exact absurd e (key i j h1 hj)
  · by_cases h2 : j < i
    · exact absurd e.symm (key j i h2 hi)
    · exact Nat.le_antisymm (Nat.not_lt.mp h1) (Nat.not_lt.mp h2) |> fun h => h.symm
